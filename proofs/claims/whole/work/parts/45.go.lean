/-! rows that agree -/
def ag (r r' : Rw) : Prop := ∀ i, i < 106 → r i = r' i
theorem ag.rf {r : Rw} : ag r r := fun _ _ => rfl
theorem ag.sm {r r' : Rw} (h : ag r r') : ag r' r := fun i hi => (h i hi).symm
theorem ag.tr {a b c : Rw} (h : ag a b) (g : ag b c) : ag a c := fun i hi => (h i hi).trans (g i hi)
theorem ag_ROk {V : Vy} (hV : VOk V) {hm : Nat} {r r' : Rw} (h : ag r r') (hr : ROk V hm r) : ROk V hm r' := by
  have hS := hV.2.1
  have hF := hV.1
  obtain ⟨h0, h1, h2, h3, h4, h5⟩ := hr
  refine ⟨by rw [← h 0 (by omega)]; exact h0, fun q hq => by rw [← h _ (by omega)]; exact h1 q hq, fun q hq => by rw [← h _ (by omega)]; exact h2 q hq, fun a b ha hb => by rw [← h _ (by omega)]; exact h3 a b ha hb, fun q i hq hi => ?_, fun t ht => by rw [← h _ (by omega)]; exact h5 t ht⟩
  have := (hV.2.2.1 q hq).2
  rw [← h _ (by omega)]; exact h4 q i hq hi
theorem ag_pl {V : Vy} (hV : VOk V) {r r' : Rw} (h : ag r r') {s : Nat} (hs : s < vS' V) : pl V r s = pl V r' s := by
  have hS := hV.2.1
  obtain ⟨w0, w6⟩ := hV.2.2.1 s hs
  have := Nat.mod_lt (r 0).toNatClampNeg w0
  unfold pl
  rw [← h 0 (by omega), h _ (by omega)]
theorem ag_plN {V : Vy} (hV : VOk V) {r r' : Rw} (h : ag r r') {s : Nat} (hs : s < vS' V) : plN V r s = plN V r' s := by unfold plN; rw [ag_pl hV h hs]
theorem ag_tuA {V : Vy} (hV : VOk V) {r r' : Rw} (h : ag r r') {s : Nat} (hs : s < vS' V) : tuA V r s = tuA V r' s := by
  have hS := hV.2.1
  unfold tuA
  rw [ag_pl hV h hs, h 0 (by omega), h (2 + s) (by omega), h (8 + s) (by omega)]
theorem ag_tuI {V : Vy} (hV : VOk V) {r r' : Rw} (h : ag r r') {s : Nat} (hs : s < vS' V) : tuI V r s = tuI V r' s := by
  have hS := hV.2.1
  unfold tuI
  rw [ag_tuA hV h hs, h (2 + s) (by omega)]
theorem ag_hears {V : Vy} (hV : VOk V) {r r' : Rw} (h : ag r r') {a : Nat} {b : Int32} {q : Nat} (hq : q < vS' V) : hears V r a b q = hears V r' a b q := by unfold hears; rw [ag_plN hV h hq]
theorem cnt_congr {p p' : Nat → Bool} : ∀ n, (∀ i, i < n → p i = p' i) → cnt p n = cnt p' n := by
  intro n
  induction n with
  | zero => intro _; rfl
  | succ n ih => intro h; show cnt p n + _ = cnt p' n + _; rw [ih (fun i hi => h i (by omega)), h n (by omega)]
theorem ag_hearN {V : Vy} (hV : VOk V) {r r' : Rw} (h : ag r r') {a : Nat} {b : Int32} : hearN V r a b = hearN V r' a b := cnt_congr _ (fun i hi => ag_hears hV h hi)
theorem ag_spr {V : Vy} (hV : VOk V) {r r' : Rw} (h : ag r r') {a : Nat} {b t : Int32} : ag (spr V r a b t) (spr V r' a b t) := by
  intro i hi
  unfold spr
  by_cases q : 2 ≤ i ∧ i < 2 + vS' V
  · rw [ag_hears hV h (by omega), h i hi]
  · rw [if_neg (fun z => q ⟨z.1, z.2.1⟩), if_neg (fun z => q ⟨z.1, z.2.1⟩)]; exact h i hi
theorem ag_tre {V : Vy} (hV : VOk V) {r r' : Rw} (h : ag r r') {s t : Nat} (hs : s < vS' V) (ht : t < vF V) : tre V r s t = tre V r' s t := by
  have hS := hV.2.1
  have hF := hV.1
  unfold tre
  rw [ag_pl hV h hs, h _ (by omega), h (98 + t) (by omega)]
theorem ag_fin {V : Vy} (hV : VOk V) {r r' : Rw} (h : ag r r') {s t n : Nat} (hs : s < vS' V) : fin V r s t n = fin V r' s t n := by
  have hS := hV.2.1
  unfold fin
  rw [ag_plN hV h hs, h (8 + s) (by omega)]
theorem ag_upd {r r' : Rw} (h : ag r r') {i : Nat} {x : Int32} : ag (upd r i x) (upd r' i x) := by
  intro j hj
  unfold upd
  split
  · rfl
  · exact h j hj
theorem ag_pay {r r' : Rw} (h : ag r r') {s o : Nat} {f : Int32} (hs : s < 6) (ho : o < 6) : ag (pay r s o f) (pay r' s o f) := by
  unfold pay
  rw [h (8 + s) (by omega), h 1 (by omega), ag_upd h (8 + o) (by omega)]
  exact ag_upd (ag_upd (ag_upd h))
theorem ag_snT {V : Vy} (hV : VOk V) {hm : Nat} {r r' : Rw} (h : ag r r') (hr : ROk V hm r) {s t : Nat} (hs : s < vS' V) (ht : t < vF V) : ag (snT V r s t) (snT V r' s t) := by
  have hS := hV.2.1
  have hF := hV.1
  unfold snT
  rw [ag_tre hV h hs ht, ag_hearN hV h, ag_fin hV h hs, ag_plN hV h hs, ag_pl hV h hs, h (14 + s * 8 + t) (by omega)]
  have eo : ownN r t = ownN r' t := by unfold ownN; rw [h (98 + t) (by omega)]
  have ho := own_lt hr hV ht
  rw [eo] at ho ⊢
  refine ag_spr hV ?_
  split
  · exact ag_pay h (by omega) ho
  · split
    · exact h
    · split
      · exact h
      · exact ag_upd h
theorem ag_sn {V : Vy} (hV : VOk V) {hm : Nat} {r r' : Rw} (h : ag r r') (hr : ROk V hm r) (hm9 : hm ≤ 20000) {s : Nat} (hs : s < vS' V) : ag (sn V r s) (sn V r' s) := by
  unfold sn
  rw [← ag_tuI hV h hs]
  rcases tuI_ok hr hV hm9 hs with h1 | ⟨t, ht, e, e2, -⟩
  · rw [if_pos h1, if_pos h1]; exact h
  · have hF := hV.1
    have : ¬ tuI V r s = -1 := by rw [e]; exact nI_ne_m1 (by omega)
    rw [if_neg this, if_neg this, e2]
    exact ag_snT hV h hr hs ht
theorem ag_sns {V : Vy} (hV : VOk V) {hm : Nat} {r r' : Rw} (h : ag r r') (hr : ROk V hm r) (hm9 : hm ≤ 20000) : ∀ s, s ≤ vS' V → ag (sns V r s) (sns V r' s) := by
  intro s
  induction s with
  | zero => intro _; exact h
  | succ s ih => intro hs; exact ag_sn hV (ih (by omega)) (sns_ok hr hV hm9 s (by omega)).1 hm9 (by omega)
theorem ag_hr1 {V : Vy} (hV : VOk V) {hm : Nat} {r r' : Rw} (h : ag r r') (hr : ROk V hm r) (hm9 : hm ≤ 20000) : ag (hr1 V r) (hr1 V r') := by
  have a := ag_sns hV h hr hm9 (vS' V) (Nat.le_refl _)
  unfold hr1
  rw [a 0 (by omega)]
  exact ag_upd a
theorem ag_hrs {V : Vy} (hV : VOk V) {hm : Nat} {r r' : Rw} (h : ag r r') (hr : ROk V hm r) : ∀ n, hm + n ≤ 20000 → ag (hrs V r n) (hrs V r' n) := by
  intro n
  induction n with
  | zero => intro _; exact h
  | succ n ih => intro hn; exact ag_hr1 hV (ih (by omega)) (hrs_ok hr hV n (by omega)).1 (by omega)
theorem ag_sgI {V : Vy} (hV : VOk V) {hm : Nat} {r r' : Rw} (h : ag r r') (hr : ROk V hm r) (hm9 : hm ≤ 20000) {s : Nat} (hs : s < vS' V) : sgI V r s = sgI V r' s := ag_tuI hV (ag_sns hV h hr hm9 s (by omega)) hs
theorem ag_trI {V : Vy} (hV : VOk V) {hm : Nat} {r r' : Rw} (h : ag r r') (hr : ROk V hm r) (hm9 : hm ≤ 20000) {s : Nat} (hs : s < vS' V) : trI V r s = trI V r' s := by
  unfold trI
  rw [← ag_sgI hV h hr hm9 hs]
  have hF := hV.1
  obtain ⟨ro, -⟩ := sns_ok hr hV hm9 s (by omega)
  rcases tuI_ok ro hV hm9 hs with h1 | ⟨t, ht, e, e2, -⟩
  · have : sgI V r s = -1 := h1
    rw [if_pos this, if_pos this]
  · have e' : sgI V r s = nI t := e
    rw [e', nI_clamp (by omega), ag_tre hV (ag_sns hV h hr hm9 s (by omega)) hs ht]
theorem ag_trB {V : Vy} (hV : VOk V) {hm : Nat} {r r' : Rw} (h : ag r r') (hr : ROk V hm r) {s : Nat} (hs : s < vS' V) : ∀ n, hm + n ≤ 20000 → trB V r s n = trB V r' s n := by
  intro n
  induction n with
  | zero => intro _; rfl
  | succ n ih =>
    intro hn
    show trB V r s n + _ = trB V r' s n + _
    rw [ih (by omega), ag_trI hV (ag_hrs hV h hr n (by omega)) (hrs_ok hr hV n (by omega)).1 (by omega) hs]
theorem ag_trT {V : Vy} (hV : VOk V) {hm : Nat} {r r' : Rw} (h : ag r r') (hr : ROk V hm r) {t : Nat} : ∀ n, hm + n ≤ 20000 → trT V r t n = trT V r' t n := by
  intro n
  induction n with
  | zero => intro _; rfl
  | succ n ih =>
    intro hn
    show trT V r t n + _ = trT V r' t n + _
    rw [ih (by omega), cnt_congr _ (fun i hi => by rw [ag_trI hV (ag_hrs hV h hr n (by omega)) (hrs_ok hr hV n (by omega)).1 (by omega) hi])]
/-! the class goes on -/
theorem C_go {V : Vy} {v hm n : Nat} {S : St} (hC : VC V v S) (h0 : S 130 0 = nI v) (hr : ROk V hm (S 131)) (hn : n ≤ 60) (hm9 : hm + n ≤ 20000) : ok (fX0_go (nI n) S) (fun S' => S' 131 = hrs V (S 131) n ∧ (∀ m, n = m + 1 → ∀ s, s < vS' V → S' 132 s = pl V (hrs V (S 131) m) s ∧ S' 133 s = sgI V (hrs V (S 131) m) s) ∧ (∀ s, s < vS' V → S' 134 s = S 134 s + nI (trB V (S 131) s n)) ∧ (∀ t, t < vF V → S' 135 t = S 135 t + nI (trT V (S 131) t n)) ∧ S' 130 = S 130 ∧ cFr S S') := by
  have hV := hC.1
  unfold fX0_go
  refine ok_for (fun k i T => LX0_go_2 k (nI n) (nI i) T) _ (fun i T => T 131 = hrs V (S 131) i ∧ (∀ m, i = m + 1 → ∀ s, s < vS' V → T 132 s = pl V (hrs V (S 131) m) s ∧ T 133 s = sgI V (hrs V (S 131) m) s) ∧ (∀ s, s < vS' V → T 134 s = S 134 s + nI (trB V (S 131) s i)) ∧ (∀ t, t < vF V → T 135 t = S 135 t + nI (trT V (S 131) t i)) ∧ T 130 = S 130 ∧ cFr S T) n ?_ ?_ FU 0 S (by omega) (by unfold FU; omega) ⟨rfl, fun m h => absurd h (by omega), fun s hs => ?_, fun t ht => ?_, rfl, fun _ _ _ _ _ _ => rfl⟩
  · intro k T hI
    simp (disch := omega) only [LX0_go_2, KX0_go_2, nI_leE, nI_ltE, nI_eqE, nI_m1, c0a, c0b, c0c, c0d, c0e, c1a, c1b, c1c, c1d, c1e, c2a, c2b, c2c, c2d, c2e, c3a, c3b, c3c, c3d, c3e, c4a, c4b, c4c, c4d, c4e, c5a, c5b, c5c, c5d, c5e, c6a, c6b, c6c, c6d, c6e, c7a, c7b, c7c, c7d, c7e, c8a, c8b, c8c, c8d, c8e, c9a, c9b, c9c, c9d, c9e, c10a, c10b, c10c, c10d, c10e, c12a, c12b, c12c, c12d, c12e, c14a, c14b, c14c, c14d, c14e, c16a, c16b, c16c, c16d, c16e, c20a, c20b, c20c, c20d, c20e, c30a, c30b, c30c, c30d, c30e, c32a, c32b, c32c, c32d, c32e, c36a, c36b, c36c, c36d, c36e, c40a, c40b, c40c, c40d, c40e, c41a, c41b, c41c, c41d, c41e, c42a, c42b, c42c, c42d, c42e, c43a, c43b, c43c, c43d, c43e, c45a, c45b, c45c, c45d, c45e, c47a, c47b, c47c, c47d, c47e, c48a, c48b, c48c, c48d, c48e, c57a, c57b, c57c, c57d, c57e, c59a, c59b, c59c, c59d, c59e, c60a, c60b, c60c, c60d, c60e, c61a, c61b, c61c, c61d, c61e, c62a, c62b, c62c, c62d, c62e, c64a, c64b, c64c, c64d, c64e, c96a, c96b, c96c, c96d, c96e, c97a, c97b, c97c, c97d, c97e, c98a, c98b, c98c, c98d, c98e, c99a, c99b, c99c, c99d, c99e, c100a, c100b, c100c, c100d, c100e, c122a, c122b, c122c, c122d, c122e, c700a, c700b, c700c, c700d, c700e, c4240a, c4240b, c4240c, c4240d, c4240e, c9999a, c9999b, c9999c, c9999d, c9999e, c100000a, c100000b, c100000c, c100000d, c100000e, c1000000a, c1000000b, c1000000c, c1000000d, c1000000e, if_T]
    exact ok_some hI
  · intro k i T hi hI ih
    obtain ⟨i1, i2, i3, i4, i5, i6⟩ := hI
    obtain ⟨ro, -⟩ := hrs_ok hr hV i (by omega)
    obtain ⟨T1, e1, g1, g2, g3, g4, g5, g6, g7⟩ := C_goHour (hC.fr i6) (by rw [i5]; exact h0) (by rw [i1]; exact ro) (by omega)
    simp (disch := omega) only [LX0_go_2, KX0_go_2, nI_leE, nI_ltE, nI_eqE, nI_m1, c0a, c0b, c0c, c0d, c0e, c1a, c1b, c1c, c1d, c1e, c2a, c2b, c2c, c2d, c2e, c3a, c3b, c3c, c3d, c3e, c4a, c4b, c4c, c4d, c4e, c5a, c5b, c5c, c5d, c5e, c6a, c6b, c6c, c6d, c6e, c7a, c7b, c7c, c7d, c7e, c8a, c8b, c8c, c8d, c8e, c9a, c9b, c9c, c9d, c9e, c10a, c10b, c10c, c10d, c10e, c12a, c12b, c12c, c12d, c12e, c14a, c14b, c14c, c14d, c14e, c16a, c16b, c16c, c16d, c16e, c20a, c20b, c20c, c20d, c20e, c30a, c30b, c30c, c30d, c30e, c32a, c32b, c32c, c32d, c32e, c36a, c36b, c36c, c36d, c36e, c40a, c40b, c40c, c40d, c40e, c41a, c41b, c41c, c41d, c41e, c42a, c42b, c42c, c42d, c42e, c43a, c43b, c43c, c43d, c43e, c45a, c45b, c45c, c45d, c45e, c47a, c47b, c47c, c47d, c47e, c48a, c48b, c48c, c48d, c48e, c57a, c57b, c57c, c57d, c57e, c59a, c59b, c59c, c59d, c59e, c60a, c60b, c60c, c60d, c60e, c61a, c61b, c61c, c61d, c61e, c62a, c62b, c62c, c62d, c62e, c64a, c64b, c64c, c64d, c64e, c96a, c96b, c96c, c96d, c96e, c97a, c97b, c97c, c97d, c97e, c98a, c98b, c98c, c98d, c98e, c99a, c99b, c99c, c99d, c99e, c100a, c100b, c100c, c100d, c100e, c122a, c122b, c122c, c122d, c122e, c700a, c700b, c700c, c700d, c700e, c4240a, c4240b, c4240c, c4240d, c4240e, c9999a, c9999b, c9999c, c9999d, c9999e, c100000a, c100000b, c100000c, c100000d, c100000e, c1000000a, c1000000b, c1000000c, c1000000d, c1000000e, if_F, e1, bd_s, bv_s, bt_s, bt_x, vl_s, pf_s, ri_s, rz_0, rz_1, tri_s, trz_0, trz_1, trx_s, pz_0, pz_1, nI_add, pk_mul, up_at, la2, la5, la6, la8, la14, la62, la64, la98, la700, ra1, ra2, ra6, ra8, ra12, ra20, ra36, ra48, lm6, lm8, lm10, lm100, lm106, rm6, rm8, rm10, rm100, rm106]
    refine ih _ ⟨by rw [g1, i1]; rfl, fun m hm s hs => ?_, fun s hs => ?_, fun t ht => ?_, by rw [g6, i5], fun a h1 h2 h3 h4 h5 => by rw [g7 a h1 h2 h3 h4 h5, i6 a h1 h2 h3 h4 h5]⟩
    · have : m = i := by omega
      subst this
      rw [g2 s hs, g3 s hs, i1]
      exact ⟨rfl, rfl⟩
    · rw [g4 s hs, i3 s hs, i1]
      show _ = S 134 s + nI (trB V (S 131) s i + if trI V (hrs V (S 131) i) s = -1 then 0 else 1)
      split
      · simp
      · rw [Int32.add_assoc, nI_1]
    · rw [g5 t ht, i4 t ht, i1]
      show _ = S 135 t + nI (trT V (S 131) t i + _)
      rw [Int32.add_assoc, nI_add]
  · show _ = S 134 s + nI 0; rw [nI_0]; simp
  · show _ = S 135 t + nI 0; rw [nI_0]; simp
theorem C_begin {V : Vy} {v hm a2 : Nat} {S : St} (hC : VC V v S) (hl : ln a2 = 106) (ha : a2 ≠ 130) (hr : ROk V hm (S a2)) (hm9 : hm ≤ 20000) : ok (fX0_begin v a2 S) (fun S' => ag (S' 131) (S a2) ∧ Cs V v hm S' ∧ (∀ i, i < 6 → S' 134 i = 0) ∧ (∀ i, i < 8 → S' 135 i = 0) ∧ cFr S S') := by
  have hv := hC.2.1
  have hV := hC.1
  unfold fX0_begin
  rw [pf_s, show (0 : Int32) = nI 0 from rfl, show (106 : Int32) = nI 106 from rfl, ac_g (by omega) (by decide)]
  generalize hT : cpy (up S 130 0 (nI v)) a2 0 131 0 106 = T
  have t1 : ∀ a, a ≠ 130 → a ≠ 131 → T a = S a := fun a h1 h2 => by rw [← hT, cpy_ne h2, up_ne h1]
  have t131 : ag (T 131) (S a2) := fun i hi => by rw [← hT, cpy_row, pk_cpy_in (by omega) (by omega), up_ne ha]; simp
  have t130 : T 130 0 = nI v := by rw [← hT, cpy_ne (by decide), up_at]
  obtain ⟨T1, e1, f1, f2⟩ := C_fill (a := 134) (x := nI 0) (S := T)
  obtain ⟨T2, e2, f3, f4⟩ := C_fill (a := 135) (x := nI 0) (S := T1)
  have u : ∀ a, a ≠ 130 → a ≠ 131 → a ≠ 134 → a ≠ 135 → T2 a = S a := fun a h1 h2 h3 h4 => by rw [f4 a h4, f2 a h3, t1 a h1 h2]
  have u131 : T2 131 = T 131 := by rw [f4 131 (by decide), f2 131 (by decide)]
  have u130 : T2 130 0 = nI v := by rw [f4 130 (by decide), f2 130 (by decide)]; exact t130
  have hr2 : ROk V hm (T2 131) := by rw [u131]; exact ag_ROk hV t131.sm hr
  have hC2 : VC V v T2 := hC.go (fun a h1 h2 h3 => u a (by omega) (by omega) (by omega) (by omega))
  obtain ⟨T3, e3, p1, p2⟩ := C_findPlaces hC2 u130 hr2 hm9
  rw [e1, bv_s, e2, bv_s, e3, bv_s]
  refine ok_some ⟨by rw [p2 131 (by decide), u131]; exact t131, ⟨hC2.go (fun a h1 h2 h3 => p2 a (by omega)), by rw [p2 130 (by decide)]; exact u130, by rw [p2 131 (by decide)]; exact hr2, hm9, fun s hs => by rw [p1 s hs, p2 131 (by decide)]⟩, fun i hi => ?_, fun i hi => ?_, fun a h1 h2 h3 h4 h5 => by rw [p2 a (by omega)]; exact u a (by omega) (by omega) (by omega) (by omega)⟩
  · rw [p2 134 (by decide), f4 134 (by decide)]; exact f1 i (by rw [ln134]; exact hi)
  · rw [p2 135 (by decide)]; exact f3 i (by rw [ln135]; exact hi)
