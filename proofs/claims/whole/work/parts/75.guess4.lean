/-! an hour's tunes, field by field: the reference -/
theorem ROk_0 {V : Vy} {hm : Nat} {r : Rw} (hr : ROk V hm r) {h hm' : Nat} (hh : h < hm') : ROk V hm' (upd r 0 (nI h)) := by
  obtain ⟨h0, h1, h2, h3, h4, h5⟩ := hr
  exact ⟨⟨h, hh, by rw [upd_at]⟩, fun q hq => by rw [upd_ne (by omega)]; exact h1 q hq, fun q hq => by rw [upd_ne (by omega)]; exact h2 q hq, fun a b ha hb => by rw [upd_ne (by omega)]; exact h3 a b ha hb, fun q j hq hj => by rw [upd_ne (by omega)]; exact h4 q j hq hj, fun t ht => by rw [upd_ne (by omega)]; exact h5 t ht⟩
theorem suN_s {V : Vy} {r : Rw} {f n t : Nat} : suN V r f (n + 1) t = (suN V r f n t || (decide (plN V r n = f) && decide (sgI V r n = nI t))) := by
  unfold suN
  show (!(allB _ n && !(decide (plN V r n = f) && decide (sgI V r n = nI t)))) = _
  cases allB (fun s => !(decide (plN V r s = f) && decide (sgI V r s = nI t))) n <;> cases (decide (plN V r n = f) && decide (sgI V r n = nI t)) <;> rfl
theorem hb_or {p p' : Nat → Bool} {t : Nat} (ht : t < 8) (h : ∀ q, q < 8 → p' q = (p q || decide (t = q))) : hbits p' 8 = hbits p 8 ||| 2 ^ t := by
  apply Nat.eq_of_testBit_eq
  intro q
  rw [Nat.testBit_or, hb_test, hb_test, Nat.testBit_two_pow]
  by_cases c : q < 8
  · rw [h q c, decide_eq_true c]; simp
  · rw [decide_eq_false c, decide_eq_false (show ¬ t = q by omega)]; rfl
def jFr (S S' : St) : Prop := (∀ a, (a < 142 ∨ 168 < a ∨ (142 < a ∧ a < 158) ∨ a = 163 ∨ a = 164) → a ≠ 177 → S' a = S a) ∧ ∀ j, j ≠ 34 → j ≠ 35 → S' 142 j = S 142 j
theorem jFr.rf {S : St} : jFr S S := ⟨fun _ _ _ => rfl, fun _ _ _ => rfl⟩
theorem jFr.tr {S T U : St} (h : jFr S T) (g : jFr T U) : jFr S U := ⟨fun a ha hb => (g.1 a ha hb).trans (h.1 a ha hb), fun j h1 h2 => (g.2 j h1 h2).trans (h.2 j h1 h2)⟩
theorem VM.j {V : Vy} {S S' : St} (h : VM V S) (hf : jFr S S') : VM V S' := h.go (fun a ha => hf.1 a (by omega) (by omega))
theorem M_told {V : Vy} {hm : Nat} {S : St} (hM : VM V S) (hr : ROk V hm (mr S)) (hm9 : hm + 1 ≤ 20000) (hz : S 142 41 = -1) : ok (fX10_hourTold S) (fun T => mr T = hr1 V (mr S) ∧ (∀ f, f < 8 → T 177 f = nI (hbits (suB V (mr S) f) 8)) ∧ jFr S T) := by
  have hV := hM.1
  have hS6 := hV.2.1
  have hF8 := hV.1
  unfold fX10_hourTold
  refine ok_for (fun k f T => LX10_hourTold_2 k (nI f) T) _ (fun f T => (∀ f', f' < f → T 177 f' = 0) ∧ ∀ a, a ≠ 177 → T a = S a) 8 ?_ ?_ FU 0 S (by omega) (by decide) ⟨fun f' hf' => absurd hf' (by omega), fun _ _ => rfl⟩
  · intro k T hI
    obtain ⟨z0, zr⟩ := hI
    have mT : mr T = mr S := mr_cell (fun a ha => zr a (by omega))
    have MT : VM V T := hM.go (fun a ha => zr a (by omega))
    obtain ⟨T2, e2, g1, g2, -, g4⟩ := M_hour MT (by rw [mT]; exact hr) (by omega) (by rw [zr 142 (by decide)]; exact hz)
    rw [mT] at g1 g2
    have hr' : ROk V hm (mr S) := hr
    obtain ⟨⟨h, hh, eh⟩, -⟩ := hr
    obtain ⟨o1, o2, o3⟩ := hr1_ok hr' hV (by omega)
    have e34 : T2 142 34 = nI (h + 1) := by
      have : mr T2 0 = nI (h + 1) := by rw [g1, o3, eh, nI_1]
      exact this
    show ok (KX10_hourTold_2 (LX10_hourTold_2 k) (nI 8) T) _
    unfold KX10_hourTold_2
    rw [if_pos (show (8 : Int32) ≤ nI 8 by decide), e2, bv_s, pf_s, e34, show (1 : Int32) = nI 1 from rfl, pk_sub (by omega), Nat.add_sub_cancel]
    generalize hT3 : up T2 142 34 (nI h) = T3
    have m3 : mr T3 = upd (hr1 V (mr S)) 0 (nI h) := by rw [← hT3, mr_up0, g1]
    have r3 : ROk V hm (mr T3) := by rw [m3]; exact ROk_0 o1 hh
    have c3 : ∀ a, a ≠ 142 → T3 a = T2 a := fun a ha => by rw [← hT3, up_ne ha]
    have M3 : VM V T3 := (MT.fr g4).go (fun a ha => c3 a (by omega))
    have pl3 : ∀ s, pl V (mr T3) s = pl V (mr S) s := pl_congr (fun i hi => by
      rw [m3]
      rcases hi with rfl | hi
      · rw [upd_at, eh]
      · rw [upd_ne (by omega)]; exact o2 i hi)
    have e167 : ∀ s, s < vS' V → T3 167 s = sgI V (mr S) s := fun s hs => by rw [c3 167 (by decide)]; exact g2 s hs
    have s3 : ∀ f, f < 8 → T3 177 f = nI 0 := fun f hf => by rw [c3 177 (by decide), g4.1 177 (by decide)]; exact z0 f hf
    refine ok_for (fun k2 s U => LX10_hourTold_37 k2 (nI s) U) _ (fun s U => (∀ f, f < 8 → U 177 f = nI (hbits (suN V (mr S) f s) 8)) ∧ ∀ a, a ≠ 177 → U a = T3 a) (vS' V) ?_ ?_ FU 0 T3 (by omega) (by unfold FU; omega) ⟨fun f hf => ?_, fun _ _ => rfl⟩
    · intro k2 U hU
      obtain ⟨u1, u2⟩ := hU
      have e145 : U 145 2 = nI (vS' V) := by rw [u2 145 (by decide)]; exact M3.2.2.1
      have eU34 : U 142 34 = nI h := by rw [u2 142 (by decide), ← hT3, up_at]
      simp (disch := omega) only [LX10_hourTold_37, KX10_hourTold_37, rd145_2, e145, nI_leE, nI_ltE, nI_eqE, nI_m1, c0a, c0b, c0c, c0d, c0e, c1a, c1b, c1c, c1d, c1e, c2a, c2b, c2c, c2d, c2e, c3a, c3b, c3c, c3d, c3e, c4a, c4b, c4c, c4d, c4e, c5a, c5b, c5c, c5d, c5e, c6a, c6b, c6c, c6d, c6e, c7a, c7b, c7c, c7d, c7e, c8a, c8b, c8c, c8d, c8e, c9a, c9b, c9c, c9d, c9e, c10a, c10b, c10c, c10d, c10e, c12a, c12b, c12c, c12d, c12e, c14a, c14b, c14c, c14d, c14e, c16a, c16b, c16c, c16d, c16e, c20a, c20b, c20c, c20d, c20e, c30a, c30b, c30c, c30d, c30e, c32a, c32b, c32c, c32d, c32e, c36a, c36b, c36c, c36d, c36e, c40a, c40b, c40c, c40d, c40e, c41a, c41b, c41c, c41d, c41e, c42a, c42b, c42c, c42d, c42e, c43a, c43b, c43c, c43d, c43e, c45a, c45b, c45c, c45d, c45e, c47a, c47b, c47c, c47d, c47e, c48a, c48b, c48c, c48d, c48e, c57a, c57b, c57c, c57d, c57e, c59a, c59b, c59c, c59d, c59e, c60a, c60b, c60c, c60d, c60e, c61a, c61b, c61c, c61d, c61e, c62a, c62b, c62c, c62d, c62e, c64a, c64b, c64c, c64d, c64e, c96a, c96b, c96c, c96d, c96e, c97a, c97b, c97c, c97d, c97e, c98a, c98b, c98c, c98d, c98e, c99a, c99b, c99c, c99d, c99e, c100a, c100b, c100c, c100d, c100e, c122a, c122b, c122c, c122d, c122e, c700a, c700b, c700c, c700d, c700e, c4240a, c4240b, c4240c, c4240d, c4240e, c9999a, c9999b, c9999c, c9999d, c9999e, c100000a, c100000b, c100000c, c100000d, c100000e, c1000000a, c1000000b, c1000000c, c1000000d, c1000000e, if_T, pf_s, eU34, ra1]
      refine ok_some ⟨?_, fun f hf => by rw [up_ne (by decide)]; exact u1 f hf, fun a ha hb => ?_, fun j h1 h2 => ?_⟩
      · rw [mr_up0, mr_cell (S := T3) (fun a ha => u2 a (by omega)), m3]
        funext j
        unfold upd
        split
        · rename_i q; rw [q, o3, eh, nI_1]
        · rfl
      · rw [up_ne (by omega), u2 a hb, c3 a (by omega), g4.1 a ha, zr a hb]
      · rw [up_off h1, u2 142 (by decide), ← hT3, up_off h1, g4.2 j h1 h2, zr 142 (by decide)]
    · intro k2 s U hs hU ih
      obtain ⟨u1, u2⟩ := hU
      have e145 : U 145 2 = nI (vS' V) := by rw [u2 145 (by decide)]; exact M3.2.2.1
      have MU : VM V U := M3.go (fun a ha => u2 a (by omega))
      have mU : mr U = mr T3 := mr_cell (fun a ha => u2 a (by omega))
      have eU : U 167 s = sgI V (mr S) s := by rw [u2 167 (by decide)]; exact e167 s hs
      obtain ⟨p, hp, p1, p2⟩ := pl_ok hr' hV (by omega) hs
      simp (disch := omega) only [LX10_hourTold_37, KX10_hourTold_37, rd145_2, e145, nI_leE, nI_ltE, nI_eqE, nI_m1, c0a, c0b, c0c, c0d, c0e, c1a, c1b, c1c, c1d, c1e, c2a, c2b, c2c, c2d, c2e, c3a, c3b, c3c, c3d, c3e, c4a, c4b, c4c, c4d, c4e, c5a, c5b, c5c, c5d, c5e, c6a, c6b, c6c, c6d, c6e, c7a, c7b, c7c, c7d, c7e, c8a, c8b, c8c, c8d, c8e, c9a, c9b, c9c, c9d, c9e, c10a, c10b, c10c, c10d, c10e, c12a, c12b, c12c, c12d, c12e, c14a, c14b, c14c, c14d, c14e, c16a, c16b, c16c, c16d, c16e, c20a, c20b, c20c, c20d, c20e, c30a, c30b, c30c, c30d, c30e, c32a, c32b, c32c, c32d, c32e, c36a, c36b, c36c, c36d, c36e, c40a, c40b, c40c, c40d, c40e, c41a, c41b, c41c, c41d, c41e, c42a, c42b, c42c, c42d, c42e, c43a, c43b, c43c, c43d, c43e, c45a, c45b, c45c, c45d, c45e, c47a, c47b, c47c, c47d, c47e, c48a, c48b, c48c, c48d, c48e, c57a, c57b, c57c, c57d, c57e, c59a, c59b, c59c, c59d, c59e, c60a, c60b, c60c, c60d, c60e, c61a, c61b, c61c, c61d, c61e, c62a, c62b, c62c, c62d, c62e, c64a, c64b, c64c, c64d, c64e, c96a, c96b, c96c, c96d, c96e, c97a, c97b, c97c, c97d, c97e, c98a, c98b, c98c, c98d, c98e, c99a, c99b, c99c, c99d, c99e, c100a, c100b, c100c, c100d, c100e, c122a, c122b, c122c, c122d, c122e, c700a, c700b, c700c, c700d, c700e, c4240a, c4240b, c4240c, c4240d, c4240e, c9999a, c9999b, c9999c, c9999d, c9999e, c100000a, c100000b, c100000c, c100000d, c100000e, c1000000a, c1000000b, c1000000c, c1000000d, c1000000e, if_F, rd167, eU, M_placeOf MU (show ROk V hm (mr U) by rw [mU]; exact r3) (by omega) hs, mU, pl3, p1, bd_s, rd177, u1 p (by omega), BX10_hourTold_78, vl_s, ra1]
      rcases sg_ok hr' hV (by omega) hs with c | ⟨t, ht, c⟩
      · rw [if_pos c]
        refine ih U ⟨fun f hf => ?_, u2⟩
        rw [u1 f hf, hbits_congr 8 (fun q hq => ?_)]
        rw [suN_s, c, decide_eq_false (show ¬ (-1 : Int32) = nI q from fun z => nI_ne_m1 (by omega) z.symm)]
        simp
      · rw [c, if_neg (nI_ne_m1 (by omega)), sh_N _ (by omega), or_N, wr177 (by omega)]
        refine ih _ ⟨fun f hf => ?_, fun a ha => by rw [up_ne ha]; exact u2 a ha⟩
        by_cases cf : f = p
        · rw [cf, up_at, hb_or (p' := suN V (mr S) p (s + 1)) (p := suN V (mr S) p s) (t := t) (by omega) (fun q hq => ?_)]
          rw [suN_s, c, p2, decide_eq_true rfl]
          congr 1
          exact decide_eq_decide.mpr (nI_eq (by omega) (by omega))
        · rw [up_off cf, u1 f hf, hbits_congr 8 (fun q hq => ?_)]
          rw [suN_s, p2, decide_eq_false (show ¬ p = f by omega)]
          simp
    · rw [s3 f hf, hbits_congr (p := suN V (mr S) f 0) (p' := fun _ => false) 8 (fun i _ => rfl)]; rfl
  · intro k f T hf hI ih
    obtain ⟨z0, zr⟩ := hI
    simp (disch := omega) only [LX10_hourTold_2, KX10_hourTold_2, nI_leE, nI_ltE, nI_eqE, nI_m1, c0a, c0b, c0c, c0d, c0e, c1a, c1b, c1c, c1d, c1e, c2a, c2b, c2c, c2d, c2e, c3a, c3b, c3c, c3d, c3e, c4a, c4b, c4c, c4d, c4e, c5a, c5b, c5c, c5d, c5e, c6a, c6b, c6c, c6d, c6e, c7a, c7b, c7c, c7d, c7e, c8a, c8b, c8c, c8d, c8e, c9a, c9b, c9c, c9d, c9e, c10a, c10b, c10c, c10d, c10e, c12a, c12b, c12c, c12d, c12e, c14a, c14b, c14c, c14d, c14e, c16a, c16b, c16c, c16d, c16e, c20a, c20b, c20c, c20d, c20e, c30a, c30b, c30c, c30d, c30e, c32a, c32b, c32c, c32d, c32e, c36a, c36b, c36c, c36d, c36e, c40a, c40b, c40c, c40d, c40e, c41a, c41b, c41c, c41d, c41e, c42a, c42b, c42c, c42d, c42e, c43a, c43b, c43c, c43d, c43e, c45a, c45b, c45c, c45d, c45e, c47a, c47b, c47c, c47d, c47e, c48a, c48b, c48c, c48d, c48e, c57a, c57b, c57c, c57d, c57e, c59a, c59b, c59c, c59d, c59e, c60a, c60b, c60c, c60d, c60e, c61a, c61b, c61c, c61d, c61e, c62a, c62b, c62c, c62d, c62e, c64a, c64b, c64c, c64d, c64e, c96a, c96b, c96c, c96d, c96e, c97a, c97b, c97c, c97d, c97e, c98a, c98b, c98c, c98d, c98e, c99a, c99b, c99c, c99d, c99e, c100a, c100b, c100c, c100d, c100e, c122a, c122b, c122c, c122d, c122e, c700a, c700b, c700c, c700d, c700e, c4240a, c4240b, c4240c, c4240d, c4240e, c9999a, c9999b, c9999c, c9999d, c9999e, c100000a, c100000b, c100000c, c100000d, c100000e, c1000000a, c1000000b, c1000000c, c1000000d, c1000000e, if_F, wr177, vl_s, ra1]
    refine ih _ ⟨fun f' hf' => ?_, fun a ha => by rw [up_ne ha]; exact zr a ha⟩
    rw [up_row]
    by_cases c : f' = f
    · subst c; rw [upd_at]
    · rw [upd_ne c]; exact z0 f' (by omega)
theorem hb_8 {p : Nat → Bool} : hbits p 8 < 256 := hb_lt 8
theorem hb_bit {p : Nat → Bool} {t : Nat} (ht : t < 8) : bit (nI (hbits p 8)) (nI t) = p t := by
  rw [bit_N _ hb_8 t ht, hb_test, decide_eq_true ht]; rfl
theorem hb_0 {V : Vy} {r : Rw} {f : Nat} : (nI (hbits (suB V r f) 8) = 0) = (lsI V r f = -1) := by
  have h8 : hbits (suB V r f) 8 < 256 := hb_8
  rw [show (0 : Int32) = nI 0 from rfl, nI_eqE (by omega) (by omega)]
  refine propext ⟨fun h => ?_, fun h => ?_⟩
  · rcases (lsI_is : isF (suB V r f) 8 (lsI V r f)) with ⟨i, hi, a, -, -⟩ | ⟨-, e⟩
    · have := hb_test (p := suB V r f) (q := i) 8
      rw [h, a, decide_eq_true hi] at this
      simp at this
    · exact e
  · rcases (lsI_is : isF (suB V r f) 8 (lsI V r f)) with ⟨i, hi, -, -, e⟩ | ⟨a, -⟩
    · rw [h] at e; exact absurd e.symm (nI_ne_m1 (by omega))
    · rw [hbits_congr (p' := fun _ => false) 8 a]; rfl
theorem M_low {S : St} {k : Nat} : ∀ i n l, i ≤ 8 → i < n → ((l = -1 ∧ ∀ j, i ≤ j → j < 8 → bit (nI k) (nI j) = false) ∨ ∃ t, i ≤ t ∧ t < 8 ∧ l = nI t ∧ bit (nI k) (nI t) = true ∧ ∀ j, i ≤ j → j < t → bit (nI k) (nI j) = false) → ok (LX10_lowest_5 n (nI k) l (nI i + (-1)) S) (fun q => isF (fun t => bit (nI k) (nI t)) 8 q.1 ∧ q.2 = S) := by
  intro i
  induction i with
  | zero =>
    intro n l _ hn hI
    obtain ⟨n, rfl⟩ : ∃ m, n = m + 1 := ⟨n - 1, by omega⟩
    show ok (KX10_lowest_5 (LX10_lowest_5 n) (nI k) l (nI 0 + (-1)) S) _
    unfold KX10_lowest_5
    rw [if_pos (by decide)]
    refine ok_some ⟨?_, rfl⟩
    rcases hI with ⟨rfl, h⟩ | ⟨t, -, ht, rfl, h1, h2⟩
    · exact Or.inr ⟨fun j hj => h j (by omega) hj, rfl⟩
    · exact Or.inl ⟨t, ht, h1, fun j hj => h2 j (by omega) hj, rfl⟩
  | succ i ih =>
    intro n l hi hn hI
    obtain ⟨n, rfl⟩ : ∃ m, n = m + 1 := ⟨n - 1, by omega⟩
    have ei : nI (i + 1) + (-1) = nI i := by
      have : ∀ i, i < 8 → nI (i + 1) + (-1) = nI i := by decide
      exact this i (by omega)
    show ok (KX10_lowest_5 (LX10_lowest_5 n) (nI k) l (nI (i + 1) + (-1)) S) _
    unfold KX10_lowest_5
    rw [ei, if_neg (nI_pos (by omega)), M_isOf, bd_s]
    cases hb : bit (nI k) (nI i) with
    | true =>
      rw [if_pos rfl, if_neg (by decide)]
      unfold BX10_lowest_19
      rw [vl_s]
      exact ih n (nI i) (by omega) (by omega) (Or.inr ⟨i, Nat.le_refl _, by omega, rfl, hb, fun j h1 h2 => absurd h1 (by omega)⟩)
    | false =>
      rw [show (if (false = true) then (1 : Int32) else 0) = 0 from rfl, if_pos rfl]
      unfold BX10_lowest_19
      rw [vl_s]
      refine ih n l (by omega) (by omega) ?_
      have fix : ∀ j, i ≤ j → ¬ i + 1 ≤ j → bit (nI k) (nI j) = false := fun j h1 h2 => by rw [show j = i by omega]; exact hb
      rcases hI with ⟨rfl, h⟩ | ⟨t, t1, ht, rfl, h1, h2⟩
      · refine Or.inl ⟨rfl, fun j h1 h2 => ?_⟩
        by_cases c : i + 1 ≤ j
        · exact h j c h2
        · exact fix j h1 c
      · refine Or.inr ⟨t, by omega, ht, rfl, h1, fun j h3 h4 => ?_⟩
        by_cases c : i + 1 ≤ j
        · exact h2 j c h4
        · exact fix j h3 c
theorem M_lowest {V : Vy} {r : Rw} {f : Nat} {S : St} : fX10_lowest (nI (hbits (suB V r f) 8)) S = some (lsI V r f, S) := by
  obtain ⟨⟨x, T⟩, e, q1, q2⟩ := M_low (S := S) (k := hbits (suB V r f) 8) 8 FU (-1) (by omega) (by decide) (Or.inl ⟨rfl, fun j h1 h2 => absurd h1 (by omega)⟩)
  unfold fX10_lowest
  have e' : LX10_lowest_5 FU (nI (hbits (suB V r f) 8)) (-1) 7 S = some (x, T) := e
  rw [e', show T = S from q2, isF_u (isF_congr (p' := suB V r f) (fun i hi => hb_bit hi) (show isF _ 8 x from q1)) lsI_is]
/-! whether all that is heard is so: the reference -/
def kFr (S S' : St) : Prop := (∀ a, (a < 142 ∨ 168 < a ∨ (142 < a ∧ a < 158) ∨ a = 163 ∨ a = 164) → a ≠ 176 → a ≠ 177 → S' a = S a) ∧ ∀ j, j ≠ 34 → j ≠ 35 → S' 142 j = S 142 j
theorem M_as_out {S T0 T : St} (hT0 : T0 = row S 176 (pkd S 176 0)) (hT1 : jFr T0 T) (b : Bool) : ok (BX10_isAsHeard_117 (b2i b) T) (fun q => q.1 = b2i b ∧ ag (mr q.2) (mr S) ∧ kFr S q.2) := by
  have c0 : ∀ a, a ≠ 176 → T0 a = S a := fun a ha => by rw [hT0, row_ne ha]
  obtain ⟨T3, e3, u1, u2⟩ := M_unpack (a := 176) (f := 0) (S := T) (by omega) (by decide)
  have e3' : fX10_unpack 176 0 T = some T3 := e3
  have e176 : ∀ i, i < 106 → T 176 (0 + i) = mr S i := by
    intro i hi
    rw [hT1.1 176 (by decide) (by decide), hT0, row_at, Nat.zero_add]
    unfold pkd
    rw [if_pos (by omega), Nat.sub_zero]
  have key : ag (mr T3) (mr S) ∧ kFr S T3 := by
    refine ⟨fun i hi => ?_, fun a h1 h2 h3 => ?_, fun j h1 h2 => ?_⟩
    · rw [u1 i hi]; exact e176 i hi
    · rw [u2.1 a (by omega) (by omega), hT1.1 a h1 h3, c0 a h2]
    · rw [u2.2 j h1 h2, hT1.2 j h1 h2, c0 142 (by decide)]
  unfold BX10_isAsHeard_117
  rw [e3', bv_s]
  cases b with
  | true => exact ok_some ⟨rfl, key⟩
  | false => exact ok_some ⟨rfl, key⟩
theorem M_as29 {V : Vy} {r : Rw} {T1 : St} {m n : Nat} {hF hK : Nat → Nat} {hT : Nat → Int32} (hF8 : vF V ≤ 8) (hh : Hd V m hF hK hT) (hc1 : HdM m hF hK hT T1) (g2 : ∀ f, f < 8 → T1 177 f = nI (hbits (suB V (hrs V r (n - 1)) f) 8)) (hn : n ≤ 30) {Q : Int32 × St → Prop} {r13 : Int32 → Int32 → St → Option (Int32 × St)} (hk : ∀ b : Bool, allB (fun j => !(decide (hK j = n)) || hdB V (hrs V r (hK j - 1)) (hF j) (hT j)) m = b → ok (r13 (b2i b) (nI (n + 1)) T1) Q) : ok (LX10_isAsHeard_29 r13 FU 1 (nI n) 0 T1) Q := by
  have m8 := hh.1
  refine ok_for (σ := Int32) (fun k2 i x => LX10_isAsHeard_29 r13 k2 x (nI n) (nI i) T1) _ (fun i x => x = b2i (allB (fun j => !(decide (hK j = n)) || hdB V (hrs V r (hK j - 1)) (hF j) (hT j)) i)) m ?_ ?_ FU 0 1 (by omega) (by unfold FU; omega) rfl
  · intro k2 x hx
    subst hx
    show ok (KX10_isAsHeard_29 r13 (LX10_isAsHeard_29 r13 k2) _ (nI n) (nI m) T1) Q
    unfold KX10_isAsHeard_29
    rw [hc1.1, if_pos (nI_le (Nat.le_refl _) (by omega)), vl_s, nI_1]
    exact hk _ rfl
  · intro k2 i x hi hx ih2
    subst hx
    obtain ⟨x1, x2, x3⟩ := hc1.2 i hi
    obtain ⟨y1, y2, y3, y4⟩ := hh.2 i hi
    have nxt : ∀ b : Bool, (allB (fun j => !(decide (hK j = n)) || hdB V (hrs V r (hK j - 1)) (hF j) (hT j)) i && (!(decide (hK i = n)) || hdB V (hrs V r (hK i - 1)) (hF i) (hT i))) = b → ok (LX10_isAsHeard_29 r13 k2 (b2i b) (nI n) (nI (i + 1)) T1) Q := fun b hb => ih2 _ (by rw [← hb]; rfl)
    show ok (KX10_isAsHeard_29 r13 (LX10_isAsHeard_29 r13 k2) _ (nI n) (nI i) T1) Q
    unfold KX10_isAsHeard_29 BX10_isAsHeard_103 BX10_isAsHeard_99 BX10_isAsHeard_104 BX10_isAsHeard_105
    rw [hc1.1, if_neg (by rw [nI_leI (by omega) (by omega)]; omega), rd174 (by omega), x2]
    by_cases c : hK i = n
    · rw [if_pos (by rw [c]), rd173 (by omega), x1, rd177 (by omega), g2 (hF i) (by omega)]
      simp only [vl_s, nI_1]
      have eh : hdB V (hrs V r (hK i - 1)) (hF i) (hT i) = hdB V (hrs V r (n - 1)) (hF i) (hT i) := by rw [c]
      cases ha : allB (fun j => !(decide (hK j = n)) || hdB V (hrs V r (hK j - 1)) (hF j) (hT j)) i with
      | false =>
        rw [if_pos (show b2i false = 0 from rfl)]
        exact nxt false (by rw [ha]; rfl)
      | true =>
        rw [if_neg (show ¬ b2i true = 0 by decide), rd175 (by omega), x3]
        rw [ha, decide_eq_true c, eh] at nxt
        rcases y4 with h | ⟨t, ht, h⟩
        · rw [h] at nxt ⊢
          rw [if_pos rfl]
          unfold hdB at nxt
          rw [if_pos rfl] at nxt
          by_cases q : nI (hbits (suB V (hrs V r (n - 1)) (hF i)) 8) = 0
          · rw [if_pos q]
            rw [hb_0] at q
            exact nxt true (by rw [decide_eq_true q]; rfl)
          · rw [if_neg q]
            rw [hb_0] at q
            exact nxt false (by rw [decide_eq_false q]; rfl)
        · rw [h] at nxt ⊢
          rw [if_neg (nI_ne_m1 (by omega)), rd175 (by omega), x3, h, M_isOf, bd_s, hb_bit (by omega)]
          unfold hdB at nxt
          rw [if_neg (nI_ne_m1 (by omega)), nI_clamp (by omega)] at nxt
          cases q : suB V (hrs V r (n - 1)) (hF i) t with
          | true =>
            rw [if_pos rfl, if_neg (by decide)]
            exact nxt true (by rw [q]; rfl)
          | false =>
            rw [show (if (false = true) then (1 : Int32) else 0) = 0 from rfl, if_pos rfl]
            exact nxt false (by rw [q]; rfl)
    · rw [if_neg (by rw [nI_eq (by omega) (by omega)]; exact c), vl_s, nI_1]
      refine nxt _ ?_
      rw [decide_eq_false c]; simp
theorem M_asH {V : Vy} {S : St} (hM : VM V S) (hr : ROk V 10000 (mr S)) (hz : S 142 41 = -1) {m : Nat} {hF hK : Nat → Nat} {hT : Nat → Int32} (hh : Hd V m hF hK hT) (hc : HdM m hF hK hT S) : ok (fX10_isAsHeard S) (fun q => q.1 = b2i (asH V (mr S) m hF hK hT) ∧ ag (mr q.2) (mr S) ∧ kFr S q.2) := by
  have hV := hM.1
  have hF8 := hV.1
  have m8 := hh.1
  unfold fX10_isAsHeard
  rw [show fX10_pack 176 0 S = some (row S 176 (pkd S 176 0)) from M_pack (a := 176) (f := 0) (by omega) (by decide), bv_s]
  generalize hT0 : row S 176 (pkd S 176 0) = T0
  have c0 : ∀ a, a ≠ 176 → T0 a = S a := fun a ha => by rw [← hT0, row_ne ha]
  have m0 : mr T0 = mr S := mr_cell (fun a ha => c0 a (by omega))
  have M0 : VM V T0 := hM.go (fun a ha => c0 a (by omega))
  have out : ∀ (T : St) (b : Bool), jFr T0 T → b = asH V (mr S) m hF hK hT → ok (BX10_isAsHeard_117 (b2i b) T) (fun q => q.1 = b2i (asH V (mr S) m hF hK hT) ∧ ag (mr q.2) (mr S) ∧ kFr S q.2) := by
    intro T b hT1 hb
    rw [← hb]
    exact M_as_out hT0.symm hT1 b
  refine ok_for2 (fun k n T => LX10_isAsHeard_13 k 1 (nI n) T) _ (fun n T => 1 ≤ n ∧ mr T = hrs V (mr S) (n - 1) ∧ jFr T0 T ∧ ∀ i, i < m → hK i < n → hdB V (hrs V (mr S) (hK i - 1)) (hF i) (hT i) = true) 31 ?_ ?_ FU 1 T0 (by omega) (by decide) ⟨by omega, m0, jFr.rf, fun i hi hk => ?_⟩
  · intro k T hI
    show ok (KX10_isAsHeard_13 (LX10_isAsHeard_13 k) 1 (nI 31) T) _
    unfold KX10_isAsHeard_13
    rw [if_pos (by decide)]
    exact out T true hI.2.2.1 ((allB_t _).mpr (fun i hi => hI.2.2.2 i hi (by have := (hh.2 i hi).2.2.1; omega))).symm
  · intro k n T hn hfu hI ih
    obtain ⟨n1, eT, frT, hdn⟩ := hI
    have roT := (hrs_ok hr hV (n - 1) (by omega)).1
    have zT : T 142 41 = -1 := by rw [frT.2 41 (by decide) (by decide), c0 142 (by decide)]; exact hz
    obtain ⟨T1, e1, g1, g2, g3⟩ := M_told (M0.j frT) (by rw [eT]; exact roT) (by omega) zT
    rw [eT] at g1 g2
    have fr1 := frT.tr g3
    have hc1 : HdM m hF hK hT T1 := by
      unfold HdM at hc ⊢
      rw [fr1.2 37 (by decide) (by decide), fr1.1 173 (by decide) (by decide), fr1.1 174 (by decide) (by decide), fr1.1 175 (by decide) (by decide), c0 142 (by decide), c0 173 (by decide), c0 174 (by decide), c0 175 (by decide)]
      exact hc
    show ok (KX10_isAsHeard_13 (LX10_isAsHeard_13 k) 1 (nI n) T) _
    unfold KX10_isAsHeard_13
    rw [if_neg (show ¬ (30 : Int32) < nI n by rw [show (30 : Int32) = nI 30 from rfl, nI_ltI (by decide) (by omega)]; omega), if_neg (by decide), e1, bv_s]
    refine M_as29 hF8 hh hc1 g2 (by omega) (fun b hb => ?_)
    cases b with
    | true =>
      refine ih T1 ⟨by omega, ?_, fr1, fun i hi hk => ?_⟩
      · rw [g1, show n + 1 - 1 = (n - 1) + 1 by omega]; rfl
      · by_cases c : hK i = n
        · have := (allB_t _).mp hb i hi
          rw [decide_eq_true c] at this
          exact this
        · exact hdn i hi (by omega)
    | false =>
      have hall : asH V (mr S) m hF hK hT = false := by
        cases ha : asH V (mr S) m hF hK hT with
        | false => rfl
        | true =>
          have : allB (fun j => !(decide (hK j = n)) || hdB V (hrs V (mr S) (hK j - 1)) (hF j) (hT j)) m = true := (allB_t _).mpr (fun i hi => by rw [show hdB V (hrs V (mr S) (hK i - 1)) (hF i) (hT i) = true from (allB_t _).mp ha i hi]; simp)
          rw [this] at hb; cases hb
      obtain ⟨k', rfl⟩ : ∃ k', k = k' + 1 := ⟨k - 1, by omega⟩
      show ok (KX10_isAsHeard_13 (LX10_isAsHeard_13 k') 0 (nI (n + 1)) T1) _
      unfold KX10_isAsHeard_13
      split
      · exact out T1 false fr1 hall.symm
      · rw [if_pos rfl]; exact out T1 false fr1 hall.symm
  · have := (hh.2 i hi).2.1
    omega
