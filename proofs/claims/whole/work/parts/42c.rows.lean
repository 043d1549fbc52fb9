/-! what an hour leaves as it is -/
theorem pl_congr {V : Vy} {r r' : Rw} (h : ∀ i, i = 0 ∨ 62 ≤ i → r' i = r i) (s : Nat) : pl V r' s = pl V r s := by
  unfold pl
  rw [h 0 (Or.inl rfl), h _ (Or.inr (by omega))]
theorem plN_congr {V : Vy} {r r' : Rw} (h : ∀ i, i = 0 ∨ 62 ≤ i → r' i = r i) (s : Nat) : plN V r' s = plN V r s := by unfold plN; rw [pl_congr h]
theorem hears_congr {V : Vy} {r r' : Rw} (h : ∀ i, i = 0 ∨ 62 ≤ i → r' i = r i) (a : Nat) (b : Int32) : hears V r' a b = hears V r a b := by
  funext q; unfold hears; rw [plN_congr h]
theorem spr_off {V : Vy} {r : Rw} {a : Nat} {b t : Int32} {i : Nat} (h : i < 2 ∨ 2 + vS' V ≤ i) : spr V r a b t i = r i := by unfold spr; rw [if_neg (by omega)]
theorem pay_off {r : Rw} {s o : Nat} {f : Int32} {i : Nat} (h1 : i ≠ 1) (h2 : i ≠ 8 + s) (h3 : i ≠ 8 + o) : pay r s o f i = r i := by unfold pay upd; rw [if_neg h1, if_neg h3, if_neg h2]
theorem tre_spr {V : Vy} {r : Rw} {a : Nat} {b x : Int32} {s t : Nat} (hS : vS' V ≤ 6) : tre V (spr V r a b x) s t = tre V r s t := by
  unfold tre
  rw [pl_congr (fun i hi => spr_off (by omega)), spr_off (by omega), spr_off (by omega)]
theorem fin_spr {V : Vy} {r : Rw} {a : Nat} {b x : Int32} {s t n : Nat} (hS : vS' V ≤ 6) : fin V (spr V r a b x) s t n = fin V r s t n := by
  unfold fin
  rw [plN_congr (fun i hi => spr_off (by omega)), spr_off (by omega)]
theorem spr_cm {V : Vy} {r r' : Rw} {a : Nat} {b t : Int32} (h0 : r' 0 = r 0) (hw : ∀ i, 62 ≤ i → r' i = r i) (hk : ∀ i, 2 ≤ i → i < 2 + vS' V → r' i = r i) (j : Nat) : spr V r' a b t j = if 2 ≤ j ∧ j < 2 + vS' V then spr V r a b t j else r' j := by
  have hh : hears V r' a b = hears V r a b := hears_congr (fun i hi => by rcases hi with rfl | q; exact h0; exact hw i q) a b
  unfold spr
  rw [hh]
  by_cases q : 2 ≤ j ∧ j < 2 + vS' V
  · rw [if_pos q, hk j q.1 q.2]
  · rw [if_neg q, if_neg (fun z => q ⟨z.1, z.2.1⟩)]
/-- what a song may change -/
theorem snT_off {V : Vy} {r : Rw} {s t : Nat} (hS : vS' V ≤ 6) (hs : s < vS' V) (ht : t < 8) (ho : ownN r t < 6) {i : Nat} (h : i = 0 ∨ 62 ≤ i) : snT V r s t i = r i := by
  unfold snT
  rw [spr_off (by omega)]
  split
  · exact pay_off (by omega) (by omega) (by omega)
  · split
    · rfl
    · split
      · rfl
      · exact upd_ne (by omega)
theorem own_ok {V : Vy} {hm : Nat} {r : Rw} (hr : ROk V hm r) (hV : VOk V) {t : Nat} (ht : t < vF V) : (r (98 + t) = -1 ∧ ownN r t = 0) ∨ (∃ o, o < vS' V ∧ r (98 + t) = nI o ∧ ownN r t = o) := by
  have hS := hV.2.1
  rcases hr.2.2.2.2.2 t ht with h | ⟨o, ho, e⟩
  · exact Or.inl ⟨h, by unfold ownN; rw [h]; rfl⟩
  · exact Or.inr ⟨o, ho, e, by unfold ownN; rw [e, nI_clamp (by omega)]⟩
theorem own_lt {V : Vy} {hm : Nat} {r : Rw} (hr : ROk V hm r) (hV : VOk V) {t : Nat} (ht : t < vF V) : ownN r t < 6 := by
  have hS := hV.2.1
  rcases own_ok hr hV ht with ⟨-, h⟩ | ⟨o, ho, -, h⟩ <;> omega
theorem or_lt {a b n : Nat} (ha : a < 2 ^ n) (hb : b < 2 ^ n) : a ||| b < 2 ^ n := Nat.or_lt_two_pow ha hb
theorem pw_lt {t F : Nat} (ht : t < F) : 2 ^ t < 2 ^ F := Nat.pow_lt_pow_right (by decide) ht
theorem spr_ok {V : Vy} {hm : Nat} {r : Rw} (hr : ROk V hm r) (hV : VOk V) {a t : Nat} {b : Int32} (ht : t < vF V) : ROk V hm (spr V r a b (nI t)) := by
  have hS := hV.2.1
  have hF := hV.1
  obtain ⟨h0, h1, h2, h3, h4, h5⟩ := hr
  refine ⟨by rw [spr_off (by omega)]; exact h0, fun s hs => ?_, fun s hs => by rw [spr_off (by omega)]; exact h2 s hs, fun s t hs ht => by rw [spr_off (by omega)]; exact h3 s t hs ht, fun s i hs hi => by rw [spr_off (by omega)]; exact h4 s i hs hi, fun t ht => by rw [spr_off (by omega)]; exact h5 t ht⟩
  obtain ⟨k, hk, e⟩ := h1 s hs
  unfold spr
  split
  · exact ⟨k ||| 2 ^ t, or_lt hk (pw_lt ht), by rw [e, pw_N t (by omega), or_N]⟩
  · exact ⟨k, hk, e⟩
theorem clp_ok (x : Int32) : ∃ f, f ≤ 99 ∧ clp x = nI f := by
  unfold clp
  have z0 : (0 : Int32).toInt = 0 := rfl
  have z9 : (99 : Int32).toInt = 99 := rfl
  by_cases h : x < 99
  · rw [if_pos h]
    by_cases q : 0 < x
    · rw [if_pos q]
      rw [Int32.lt_iff_toInt_lt] at h q
      refine ⟨x.toInt.toNat, by omega, ?_⟩
      apply Int32.toInt_inj.mp
      rw [nI_toInt (by omega)]
      omega
    · rw [if_neg q]; exact ⟨0, by omega, rfl⟩
  · rw [if_neg h]; exact ⟨99, by omega, rfl⟩
theorem i_sub {a b : Int32} (h1 : -2 ^ 31 ≤ a.toInt - b.toInt) (h2 : a.toInt - b.toInt < 2 ^ 31) : (a - b).toInt = a.toInt - b.toInt := by rw [Int32.toInt_sub]; exact Int.bmod_eq_of_le (by omega) (by omega)
theorem i_add {a b : Int32} (h1 : -2 ^ 31 ≤ a.toInt + b.toInt) (h2 : a.toInt + b.toInt < 2 ^ 31) : (a + b).toInt = a.toInt + b.toInt := by rw [Int32.toInt_add]; exact Int.bmod_eq_of_le (by omega) (by omega)
theorem lo9_ok {x : Int32} (h : x.toInt ≤ 9999) : -9999 ≤ (lo9 x).toInt ∧ (lo9 x).toInt ≤ 9999 := by
  unfold lo9
  have z : (-9999 : Int32).toInt = -9999 := rfl
  split
  · rename_i q; rw [Int32.lt_iff_toInt_lt] at q; omega
  · omega
theorem hi9_ok {x : Int32} (h : -9999 ≤ x.toInt) : -9999 ≤ (hi9 x).toInt ∧ (hi9 x).toInt ≤ 9999 := by
  unfold hi9
  have z : (9999 : Int32).toInt = 9999 := rfl
  split
  · rename_i q; rw [Int32.lt_iff_toInt_lt] at q; omega
  · omega
theorem pay_ok {V : Vy} {hm : Nat} {r : Rw} (hr : ROk V hm r) (hV : VOk V) {s o f : Nat} (hs : s < vS' V) (ho : o < vS' V) (hf : f ≤ 99) : ROk V hm (pay r s o (nI f)) := by
  have hS := hV.2.1
  obtain ⟨h0, h1, h2, h3, h4, h5⟩ := hr
  have ef := nI_toInt (n := f) (by omega)
  obtain ⟨p1, p2⟩ := h2 s hs
  have key1 : -9999 ≤ (lo9 (r (8 + s) - nI f)).toInt ∧ (lo9 (r (8 + s) - nI f)).toInt ≤ 9999 := lo9_ok (by rw [i_sub (by omega) (by omega)]; omega)
  have key2 : ∀ q, q < vS' V → -9999 ≤ (upd r (8 + s) (lo9 (r (8 + s) - nI f)) (8 + q)).toInt ∧ (upd r (8 + s) (lo9 (r (8 + s) - nI f)) (8 + q)).toInt ≤ 9999 := fun q hq => by
    unfold upd
    split
    · exact key1
    · exact h2 q hq
  obtain ⟨k1, k2⟩ := key2 o ho
  refine ⟨by rw [pay_off (by omega) (by omega) (by omega)]; exact h0, fun q hq => by rw [pay_off (by omega) (by omega) (by omega)]; exact h1 q hq, fun q hq => ?_, fun q t hq ht => by rw [pay_off (by omega) (by omega) (by omega)]; exact h3 q t hq ht, fun q i hq hi => by rw [pay_off (by omega) (by omega) (by omega)]; exact h4 q i hq hi, fun t ht => by rw [pay_off (by omega) (by omega) (by omega)]; exact h5 t ht⟩
  unfold pay
  rw [upd_ne (by omega)]
  by_cases e : q = o
  · subst e
    rw [upd_at]
    exact hi9_ok (by rw [i_add (by omega) (by omega)]; omega)
  · rw [upd_ne (by omega)]
    exact key2 q hq
theorem fin_ok (V : Vy) (r : Rw) (s t n : Nat) : ∃ f, f ≤ 99 ∧ fin V r s t n = nI f := by unfold fin; exact clp_ok _
theorem snT_ok {V : Vy} {hm : Nat} {r : Rw} (hr : ROk V hm r) (hV : VOk V) {s t : Nat} (hs : s < vS' V) (ht : t < vF V) : ROk V hm (snT V r s t) := by
  have hS := hV.2.1
  have hF := hV.1
  unfold snT
  refine spr_ok ?_ hV ht
  split
  · rename_i h
    rcases own_ok hr hV ht with ⟨e, -⟩ | ⟨o, ho, e, e2⟩
    · unfold tre at h
      simp [e] at h
    · obtain ⟨f, hf, ef⟩ := fin_ok V r s t (hearN V r (plN V r s) (nI s))
      rw [ef, e2]
      exact pay_ok hr hV hs ho hf
  · split
    · exact hr
    · split
      · exact hr
      · rename_i q
        obtain ⟨h0, h1, h2, h3, h4, h5⟩ := hr
        refine ⟨by rw [upd_ne (by omega)]; exact h0, fun q hq => by rw [upd_ne (by omega)]; exact h1 q hq, fun q hq => by rw [upd_ne (by omega)]; exact h2 q hq, fun a b ha hb => ?_, fun q i hq hi => by rw [upd_ne (by omega)]; exact h4 q i hq hi, fun t ht => by rw [upd_ne (by omega)]; exact h5 t ht⟩
        obtain ⟨e, he, ee⟩ := h3 s t hs ht
        by_cases c : 14 + a * 8 + b = 14 + s * 8 + t
        · rw [c, upd_at, ee]
          rw [ee, show (0 : Int32) = nI 0 from rfl, nI_leI (by omega) (by omega)] at q
          exact ⟨e - 1, by omega, by rw [show (1 : Int32) = nI 1 from rfl, pk_sub (by omega)]⟩
        · rw [upd_ne c]; exact h3 a b ha hb
theorem pl_ok {V : Vy} {hm : Nat} {r : Rw} (hr : ROk V hm r) (hV : VOk V) (hm9 : hm ≤ 20000) {s : Nat} (hs : s < vS' V) : ∃ f, f < vF V ∧ pl V r s = nI f ∧ plN V r s = f := by
  obtain ⟨⟨h, hh, e0⟩, -, -, -, hw, -⟩ := hr
  obtain ⟨w0, w6⟩ := hV.2.2.1 s hs
  obtain ⟨f, hf, e⟩ := hw s ((r 0).toNatClampNeg % vW V s) hs (Nat.mod_lt _ w0)
  have hF := hV.1
  refine ⟨f, hf, e, ?_⟩
  unfold plN pl
  rw [e, nI_clamp (by omega)]
theorem tuA_ok {V : Vy} {hm : Nat} {r : Rw} (hr : ROk V hm r) (hV : VOk V) (hm9 : hm ≤ 20000) {s : Nat} (hs : s < vS' V) : ∃ t, t < vF V ∧ tuA V r s = nI t := by
  have hF0 := hV.2.2.2.1 (by omega)
  have hF := hV.1
  unfold tuA
  split
  · obtain ⟨f, hf, e, -⟩ := pl_ok hr hV hm9 hs
    exact ⟨f, hf, e⟩
  · exact fmod_lt hF0 (by omega)
theorem tuI_ok {V : Vy} {hm : Nat} {r : Rw} (hr : ROk V hm r) (hV : VOk V) (hm9 : hm ≤ 20000) {s : Nat} (hs : s < vS' V) : tuI V r s = -1 ∨ ∃ t, t < vF V ∧ tuI V r s = nI t ∧ (tuI V r s).toNatClampNeg = t ∧ bit (r (2 + s)) (nI t) = true := by
  obtain ⟨t, ht, e⟩ := tuA_ok hr hV hm9 hs
  have hF := hV.1
  unfold tuI
  split
  · rename_i h
    refine Or.inr ⟨t, ht, e, by rw [e, nI_clamp (by omega)], by rw [← e]; exact h⟩
  · exact Or.inl rfl
theorem sn_ok {V : Vy} {hm : Nat} {r : Rw} (hr : ROk V hm r) (hV : VOk V) (hm9 : hm ≤ 20000) {s : Nat} (hs : s < vS' V) : ROk V hm (sn V r s) := by
  unfold sn
  rcases tuI_ok hr hV hm9 hs with h | ⟨t, ht, e, e2, -⟩
  · rw [if_pos h]; exact hr
  · rw [e2, if_neg (by rw [e]; exact nI_ne_m1 (by have := hV.1; omega))]
    exact snT_ok hr hV hs ht
theorem sn_off {V : Vy} {hm : Nat} {r : Rw} (hr : ROk V hm r) (hV : VOk V) (hm9 : hm ≤ 20000) {s : Nat} (hs : s < vS' V) {i : Nat} (h : i = 0 ∨ 62 ≤ i) : sn V r s i = r i := by
  have hF := hV.1
  unfold sn
  rcases tuI_ok hr hV hm9 hs with h1 | ⟨t, ht, e, e2, -⟩
  · rw [if_pos h1]
  · rw [e2, if_neg (by rw [e]; exact nI_ne_m1 (by omega))]
    exact snT_off hV.2.1 hs (by omega) (own_lt hr hV ht) h
theorem sns_ok {V : Vy} {hm : Nat} {r : Rw} (hr : ROk V hm r) (hV : VOk V) (hm9 : hm ≤ 20000) : ∀ s, s ≤ vS' V → ROk V hm (sns V r s) ∧ ∀ i, i = 0 ∨ 62 ≤ i → sns V r s i = r i := by
  intro s
  induction s with
  | zero => intro _; exact ⟨hr, fun _ _ => rfl⟩
  | succ s ih =>
    intro h
    obtain ⟨a, b⟩ := ih (by omega)
    exact ⟨sn_ok a hV hm9 (by omega), fun i hi => by show sn V (sns V r s) s i = r i; rw [sn_off a hV hm9 (by omega) hi]; exact b i hi⟩
theorem hr1_ok {V : Vy} {hm : Nat} {r : Rw} (hr : ROk V hm r) (hV : VOk V) (hm9 : hm ≤ 20000) : ROk V (hm + 1) (hr1 V r) ∧ (∀ i, 62 ≤ i → hr1 V r i = r i) ∧ hr1 V r 0 = r 0 + 1 := by
  have hS := hV.2.1
  obtain ⟨⟨h0, h1, h2, h3, h4, h5⟩, b⟩ := sns_ok hr hV hm9 (vS' V) (Nat.le_refl _)
  refine ⟨⟨?_, fun q hq => by unfold hr1; rw [upd_ne (by omega)]; exact h1 q hq, fun q hq => by unfold hr1; rw [upd_ne (by omega)]; exact h2 q hq, fun a b ha hb => by unfold hr1; rw [upd_ne (by omega)]; exact h3 a b ha hb, fun q i hq hi => by unfold hr1; rw [upd_ne (by omega)]; exact h4 q i hq hi, fun t ht => by unfold hr1; rw [upd_ne (by omega)]; exact h5 t ht⟩, fun i hi => ?_, ?_⟩
  · obtain ⟨h, hh, e⟩ := h0
    exact ⟨h + 1, by omega, by unfold hr1; rw [upd_at, e]; exact nI_1 h⟩
  · unfold hr1; rw [upd_ne (by omega)]; exact b i (Or.inr hi)
  · unfold hr1; rw [upd_at, b 0 (Or.inl rfl)]
theorem hrs_ok {V : Vy} {hm : Nat} {r : Rw} (hr : ROk V hm r) (hV : VOk V) : ∀ n, hm + n ≤ 20000 → ROk V (hm + n) (hrs V r n) ∧ (∀ i, 62 ≤ i → hrs V r n i = r i) ∧ hrs V r n 0 = r 0 + nI n := by
  intro n
  induction n with
  | zero => intro _; exact ⟨hr, fun _ _ => rfl, by show r 0 = r 0 + nI 0; rw [nI_0]; simp⟩
  | succ n ih =>
    intro h
    obtain ⟨a, b, c⟩ := ih (by omega)
    obtain ⟨a2, b2, c2⟩ := hr1_ok a hV (by omega)
    refine ⟨a2, fun i hi => by show hr1 V (hrs V r n) i = r i; rw [b2 i hi]; exact b i hi, ?_⟩
    show hr1 V (hrs V r n) 0 = _
    rw [c2, c, nI_succ, Int32.add_assoc]
