/-! with more or less earth in one barrow -/
def oe (m : Nat) (x y : Rw) : Prop := ∀ i, i ≠ m → x i = y i
section OE
variable {V : Vy} {hm s f : Nat} {x y : Rw}
theorem oe_pl (hs : s < 6) (hf : f < 8) (h : oe (14 + s * 8 + f) x y) (q : Nat) : pl V x q = pl V y q := pl_congr (fun i hi => h i (by omega)) q
theorem oe_plN (hs : s < 6) (hf : f < 8) (h : oe (14 + s * 8 + f) x y) (q : Nat) : plN V x q = plN V y q := plN_congr (fun i hi => h i (by omega)) q
theorem oe_tuI (hs : s < 6) (hf : f < 8) (h : oe (14 + s * 8 + f) x y) {q : Nat} (hq : q < 6) : tuI V x q = tuI V y q := by
  have e : tuA V x q = tuA V y q := by
    unfold tuA
    rw [oe_pl hs hf h, h 0 (by omega), h (2 + q) (by omega), h (8 + q) (by omega)]
  unfold tuI
  rw [e, h (2 + q) (by omega)]
theorem oe_hears (hs : s < 6) (hf : f < 8) (h : oe (14 + s * 8 + f) x y) (a : Nat) (b : Int32) : hears V x a b = hears V y a b := hears_congr (fun i hi => h i (by omega)) a b
theorem oe_spr (hs : s < 6) (hf : f < 8) (h : oe (14 + s * 8 + f) x y) (a : Nat) (b t : Int32) : oe (14 + s * 8 + f) (spr V x a b t) (spr V y a b t) := by
  intro i hi
  unfold spr
  rw [oe_hears hs hf h, h i hi]
theorem oe_upd {m i : Nat} {v : Int32} (h : oe m x y) : oe m (upd x i v) (upd y i v) := by
  intro j hj
  unfold upd
  split
  · rfl
  · exact h j hj
theorem oe_pay {m q o : Nat} {v : Int32} (h : oe m x y) (h1 : m ≠ 1) (h2 : m ≠ 8 + q) (h3 : m ≠ 8 + o) : oe m (pay x q o v) (pay y q o v) := by
  unfold pay
  rw [h (8 + q) (Ne.symm h2), h 1 (Ne.symm h1), oe_upd (i := 8 + q) h (8 + o) (Ne.symm h3)]
  exact oe_upd (oe_upd (oe_upd h))
/-- a song that does not touch the barrow -/
theorem oe_snT (hV : VOk V) (hr : ROk V hm x) (hs : s < 6) (hf : f < 8) (h : oe (14 + s * 8 + f) x y) {q t : Nat} (hq : q < vS' V) (ht : t < vF V) (hne : ¬ (q = s ∧ t = f) ∨ nI t = pl V x q) : oe (14 + s * 8 + f) (snT V x q t) (snT V y q t) ∧ snT V x q t (14 + s * 8 + f) = x (14 + s * 8 + f) ∧ snT V y q t (14 + s * 8 + f) = y (14 + s * 8 + f) ∧ tre V y q t = tre V x q t := by
  have hS6 := hV.2.1
  have hF8 := hV.1
  have ho := own_lt hr hV ht
  have eo : ownN x t = ownN y t := by unfold ownN; rw [h _ (by omega)]
  have et : tre V x q t = tre V y q t := by
    unfold tre
    rw [oe_pl hs hf h, h (98 + t) (by omega)]
    rcases hne with c | c
    · rw [h (14 + q * 8 + t) (by omega)]
    · rw [← oe_pl hs hf h, ← c]; simp
  have eh : hearN V x (plN V x q) (nI q) = hearN V y (plN V y q) (nI q) := by unfold hearN; rw [oe_plN hs hf h, oe_hears hs hf h]
  have ef : fin V x q t (hearN V x (plN V x q) (nI q)) = fin V y q t (hearN V y (plN V y q) (nI q)) := by
    rw [eh]; unfold fin
    rw [oe_plN hs hf h, h (8 + q) (by omega)]
  unfold snT
  rw [et, ef, oe_plN hs hf h, ← eo, oe_pl hs hf h]
  rw [spr_off (by omega), spr_off (by omega)]
  by_cases c : tre V y q t = true
  · simp only [if_pos c]
    exact ⟨oe_spr hs hf (oe_pay h (by omega) (by omega) (by omega)) _ _ _, pay_off (by omega) (by omega) (by omega), pay_off (by omega) (by omega) (by omega), trivial⟩
  · simp only [if_neg c]
    by_cases c2 : nI t = pl V y q
    · simp only [if_pos c2]
      exact ⟨oe_spr hs hf h _ _ _, trivial, trivial, trivial⟩
    · simp only [if_neg c2]
      have hne2 : ¬ (q = s ∧ t = f) := by
        rcases hne with c3 | c3
        · exact c3
        · rw [oe_pl hs hf h] at c3; exact absurd c3 c2
      have e14 : x (14 + q * 8 + t) = y (14 + q * 8 + t) := h _ (by omega)
      rw [e14]
      by_cases c3 : y (14 + q * 8 + t) ≤ 0
      · simp only [if_pos c3]
        exact ⟨oe_spr hs hf h _ _ _, trivial, trivial, trivial⟩
      · simp only [if_neg c3]
        exact ⟨oe_spr hs hf (oe_upd h) _ _ _, upd_ne (by omega), upd_ne (by omega), trivial⟩
/-- what one sings of that barrow: earth, or a trespass -/
theorem oe_use (hV : VOk V) (hs : s < vS' V) (hf : f < vF V) (h : oe (14 + s * 8 + f) x y) (hp : ¬ nI f = pl V x s) (ho1 : ¬ x (98 + f) = -1) (ho2 : ¬ x (98 + f) = nI s) {a b : Nat} (ha : 0 < a) (ha9 : a ≤ 99) (hb9 : b ≤ 99) (ex : x (14 + s * 8 + f) = nI a) (ey : y (14 + s * 8 + f) = nI b) : snT V x s f (14 + s * 8 + f) = nI (a - 1) ∧ (b = 0 → tre V y s f = true) ∧ (0 < b → tre V y s f = false ∧ oe (14 + s * 8 + f) (snT V x s f) (snT V y s f) ∧ snT V y s f (14 + s * 8 + f) = nI (b - 1)) := by
  have hS6 := hV.2.1
  have hF8 := hV.1
  have hp2 : ¬ nI f = pl V y s := by rw [← oe_pl (by omega) (by omega) h]; exact hp
  have pos : ∀ (r : Rw) (c : Nat), 0 < c → c ≤ 99 → r (14 + s * 8 + f) = nI c → ¬ nI f = pl V r s → tre V r s f = false ∧ snT V r s f = spr V (upd r (14 + s * 8 + f) (nI (c - 1))) (plN V r s) (nI s) (nI f) := by
    intro r c c0 c9 e hp
    have t0 : tre V r s f = false := by unfold tre; rw [e]; simp [nI_ne0 c0 (show c < 2 ^ 31 by omega)]
    refine ⟨t0, ?_⟩
    unfold snT
    rw [t0, e]
    simp only [Bool.false_eq_true, if_false, if_neg hp]
    rw [if_neg (nI_nle c0 (by omega)), show (1 : Int32) = nI 1 from rfl, pk_sub (by omega)]
  obtain ⟨x1, x2⟩ := pos x a ha ha9 ex hp
  refine ⟨?_, fun b0 => ?_, fun b0 => ?_⟩
  · rw [x2, spr_off (by omega), upd_at]
  · unfold tre
    rw [ey, b0, ← h (98 + f) (by omega)]
    simp [hp2, ho1, ho2, nI_0]
  · obtain ⟨y1, y2⟩ := pos y b b0 hb9 ey hp2
    refine ⟨y1, ?_, ?_⟩
    · rw [x2, y2, oe_plN (by omega) (by omega) h]
      refine oe_spr (by omega) (by omega) (fun i hi => ?_) _ _ _
      rw [upd_ne hi, upd_ne hi]; exact h i hi
    · rw [y2, spr_off (by omega), upd_at]
/-- only that singer's songs touch the barrow -/
theorem at_sn (hV : VOk V) (hr : ROk V hm x) (hm9 : hm ≤ 20000) (hs : s < 6) (hf : f < 8) {q : Nat} (hq : q < vS' V) (hne : q ≠ s) : sn V x q (14 + s * 8 + f) = x (14 + s * 8 + f) := by
  have hF8 := hV.1
  unfold sn
  rcases tuI_ok hr hV hm9 hq with h1 | ⟨t, ht, e, e2, -⟩
  · rw [if_pos h1]
  · rw [e2, if_neg (by rw [e]; exact nI_ne_m1 (by omega))]
    exact (oe_snT (y := x) hV hr hs hf (fun _ _ => rfl) hq ht (Or.inl (fun z => hne z.1))).2.1
/-- one singer -/
theorem oe_sn (hV : VOk V) (hr : ROk V hm x) (hry : ROk V hm y) (hm9 : hm ≤ 20000) (hs : s < vS' V) (hf : f < vF V) (h : oe (14 + s * 8 + f) x y) (ho1 : ¬ x (98 + f) = -1) (ho2 : ¬ x (98 + f) = nI s) {a b : Nat} (ha : 0 < a) (ha9 : a ≤ 99) (hb9 : b ≤ 99) (ex : x (14 + s * 8 + f) = nI a) (ey : y (14 + s * 8 + f) = nI b) {q : Nat} (hq : q < vS' V) : (oe (14 + s * 8 + f) (sn V x q) (sn V y q) ∧ sn V x q (14 + s * 8 + f) = nI a ∧ sn V y q (14 + s * 8 + f) = nI b ∧ (q = s → ¬ trO V y s (tuI V y s) = nI f)) ∨ (q = s ∧ sn V x q (14 + s * 8 + f) = nI (a - 1) ∧ ((0 < b ∧ oe (14 + s * 8 + f) (sn V x q) (sn V y q) ∧ sn V y q (14 + s * 8 + f) = nI (b - 1) ∧ ¬ trO V y s (tuI V y s) = nI f) ∨ (b = 0 ∧ trO V y s (tuI V y s) = nI f))) := by
  have hS6 := hV.2.1
  have hF8 := hV.1
  have et := oe_tuI (V := V) (by omega) (by omega) h (q := q) (by omega)
  have fm : ¬ (-1 : Int32) = nI f := fun z => nI_ne_m1 (n := f) (by omega) z.symm
  rcases tuI_ok hr hV hm9 hq with h1 | ⟨t, ht, e, e2, -⟩
  · left
    unfold sn
    rw [← et, if_pos h1, if_pos h1]
    refine ⟨h, ex, ey, fun c => ?_⟩
    subst c
    rw [← et, h1]; unfold trO; rw [if_pos rfl]; exact fm
  · have hn : ¬ nI t = -1 := nI_ne_m1 (by omega)
    have esx : sn V x q = snT V x q t := by unfold sn; rw [e2, if_neg (by rw [e]; exact hn)]
    have esy : sn V y q = snT V y q t := by unfold sn; rw [← et, e2, if_neg (by rw [e]; exact hn)]
    rw [esx, esy]
    by_cases c : (q = s ∧ t = f) ∧ ¬ nI t = pl V x q
    · obtain ⟨⟨c1, c2⟩, c3⟩ := c
      subst c1; subst c2
      obtain ⟨u1, u2, u3⟩ := oe_use hV hs hf h c3 ho1 ho2 ha ha9 hb9 ex ey
      right
      refine ⟨rfl, u1, ?_⟩
      rw [← et, e]
      unfold trO
      rw [if_neg hn, nI_clamp (by omega)]
      rcases Nat.eq_zero_or_pos b with b0 | b0
      · right; exact ⟨b0, by rw [u2 b0]; rfl⟩
      · left
        obtain ⟨v1, v2, v3⟩ := u3 b0
        exact ⟨b0, v2, v3, by rw [v1]; exact fm⟩
    · left
      obtain ⟨w1, w2, w3, w4⟩ := oe_snT hV hr (by omega) (by omega) h hq ht (by
        by_cases c3 : nI t = pl V x q
        · exact Or.inr c3
        · exact Or.inl (fun z => c ⟨z, c3⟩))
      refine ⟨w1, by rw [w2]; exact ex, by rw [w3]; exact ey, fun c1 => ?_⟩
      subst c1
      rw [← et, e]
      unfold trO
      rw [if_neg hn, nI_clamp (by omega)]
      by_cases c2 : t = f
      · subst c2
        have c3 : nI t = pl V x q := by
          by_cases z : nI t = pl V x q
          · exact z
          · exact absurd ⟨⟨rfl, rfl⟩, z⟩ c
        have : tre V y q t = false := by unfold tre; rw [← oe_pl (by omega) (by omega) h, ← c3]; simp
        rw [this]; exact fm
      · split
        · rw [nI_eq (by omega) (by omega)]; exact c2
        · exact fm
theorem oe_sns (hV : VOk V) (hr : ROk V hm x) (hry : ROk V hm y) (hm9 : hm ≤ 20000) (hs : s < vS' V) (hf : f < vF V) (h : oe (14 + s * 8 + f) x y) (ho1 : ¬ x (98 + f) = -1) (ho2 : ¬ x (98 + f) = nI s) {a b : Nat} (ha : 1 < a) (ha9 : a ≤ 99) (hb9 : b ≤ 99) (ex : x (14 + s * 8 + f) = nI a) (ey : y (14 + s * 8 + f) = nI b) : ∀ q, q ≤ vS' V →
    (∃ u, u ≤ 1 ∧ u ≤ b ∧ oe (14 + s * 8 + f) (sns V x q) (sns V y q) ∧ sns V x q (14 + s * 8 + f) = nI (a - u) ∧ sns V y q (14 + s * 8 + f) = nI (b - u) ∧ (u = 1 → s < q) ∧ (s < q → ¬ trI V y s = nI f)) ∨ (b = 0 ∧ s < q ∧ trI V y s = nI f ∧ sns V x q (14 + s * 8 + f) = nI (a - 1)) := by
  have hS6 := hV.2.1
  have hF8 := hV.1
  have etr : ∀ r : Rw, trI V r s = trO V (sns V r s) s (tuI V (sns V r s) s) := fun r => rfl
  intro q
  induction q with
  | zero => intro _; exact Or.inl ⟨0, by omega, by omega, h, ex, ey, fun z => absurd z (by omega), fun z => absurd z (by omega)⟩
  | succ q ih =>
    intro hq
    obtain ⟨rx, rx2⟩ := sns_ok hr hV hm9 q (by omega)
    obtain ⟨ry, -⟩ := sns_ok hry hV hm9 q (by omega)
    rcases ih (by omega) with ⟨u, u1, ub, o1, x1, y1, l1, n1⟩ | ⟨b0, sq, t1, x1⟩
    · rcases oe_sn hV rx ry hm9 hs hf o1 (by rw [rx2 _ (by omega)]; exact ho1) (by rw [rx2 _ (by omega)]; exact ho2) (a := a - u) (b := b - u) (q := q) (by omega) (by omega) (by omega) x1 y1 (by omega) with ⟨p1, p2, p3, p4⟩ | ⟨qs, p2, p3⟩
      · refine Or.inl ⟨u, u1, ub, p1, p2, p3, fun z => by have := l1 z; omega, fun z => ?_⟩
        by_cases c : q = s
        · rw [etr y, ← c]; rw [← c] at p4; exact p4 rfl
        · exact n1 (by omega)
      · subst qs
        have u0 : u = 0 := by
          rcases Nat.eq_zero_or_pos u with z | z
          · exact z
          · have := l1 (by omega); omega
        subst u0
        rcases p3 with ⟨b0, q1, q2, q3⟩ | ⟨b0, q1⟩
        · exact Or.inl ⟨1, by omega, by omega, q1, p2, q2, fun _ => by omega, fun _ => by rw [etr y]; exact q3⟩
        · exact Or.inr ⟨by omega, by omega, by rw [etr y]; exact q1, p2⟩
    · refine Or.inr ⟨b0, by omega, t1, ?_⟩
      show sn V (sns V x q) q (14 + s * 8 + f) = _
      rw [at_sn hV rx hm9 (by omega) (by omega) (by omega) (by omega)]
      exact x1
/-- one hour -/
theorem oe_hr1 (hV : VOk V) (hr : ROk V hm x) (hry : ROk V hm y) (hm9 : hm ≤ 20000) (hs : s < vS' V) (hf : f < vF V) (h : oe (14 + s * 8 + f) x y) (ho1 : ¬ x (98 + f) = -1) (ho2 : ¬ x (98 + f) = nI s) {a b : Nat} (ha : 1 < a) (ha9 : a ≤ 99) (hb9 : b ≤ 99) (ex : x (14 + s * 8 + f) = nI a) (ey : y (14 + s * 8 + f) = nI b) :
    ∃ u, u ≤ 1 ∧ hr1 V x (14 + s * 8 + f) = nI (a - u) ∧ (u ≤ b → oe (14 + s * 8 + f) (hr1 V x) (hr1 V y) ∧ hr1 V y (14 + s * 8 + f) = nI (b - u) ∧ ¬ trI V y s = nI f) ∧ (b < u → trI V y s = nI f) := by
  rcases oe_sns hV hr hry hm9 hs hf h ho1 ho2 ha ha9 hb9 ex ey (vS' V) (Nat.le_refl _) with ⟨u, u1, ub, o1, x1, y1, -, n1⟩ | ⟨b0, sq, t1, x1⟩
  · refine ⟨u, u1, ?_, fun _ => ⟨fun i hi => ?_, ?_, n1 hs⟩, fun z => absurd z (by omega)⟩
    · unfold hr1; rw [upd_ne (by omega)]; exact x1
    · unfold hr1; rw [o1 0 (by omega)]; exact oe_upd o1 i hi
    · unfold hr1; rw [upd_ne (by omega)]; exact y1
  · refine ⟨1, by omega, ?_, fun z => absurd z (by omega), fun _ => t1⟩
    unfold hr1; rw [upd_ne (by omega)]; exact x1
/-- all hours: how much is used of a full barrow -/
theorem oe_hrs (hV : VOk V) (hr : ROk V hm x) (hs : s < vS' V) (hf : f < vF V) (ho1 : ¬ x (98 + f) = -1) (ho2 : ¬ x (98 + f) = nI s) (ex : x (14 + s * 8 + f) = nI 99) : ∀ n, n ≤ 60 → hm + n ≤ 20000 →
    ∃ U, U ≤ n ∧ hrs V x n (14 + s * 8 + f) = nI (99 - U) ∧ ∀ (e : Nat) (y : Rw), e ≤ 99 → ROk V hm y → oe (14 + s * 8 + f) x y → y (14 + s * 8 + f) = nI e →
      (U ≤ e → oe (14 + s * 8 + f) (hrs V x n) (hrs V y n) ∧ hrs V y n (14 + s * 8 + f) = nI (e - U) ∧ ∀ i, i < n → ¬ trI V (hrs V y i) s = nI f) ∧ (e < U → ∃ i, i < n ∧ trI V (hrs V y i) s = nI f) := by
  intro n
  induction n with
  | zero => intro _ _; exact ⟨0, by omega, ex, fun e y e9 hy ho ey => ⟨fun _ => ⟨ho, ey, fun i hi => absurd hi (by omega)⟩, fun z => absurd z (by omega)⟩⟩
  | succ n ih =>
    intro hn hmn
    obtain ⟨U, hU, xU, all⟩ := ih (by omega) (by omega)
    obtain ⟨rx, rx2, -⟩ := hrs_ok hr hV n (by omega)
    have o1 : ¬ hrs V x n (98 + f) = -1 := by rw [rx2 _ (by omega)]; exact ho1
    have o2 : ¬ hrs V x n (98 + f) = nI s := by rw [rx2 _ (by omega)]; exact ho2
    -- the use in this hour, told by the row with the full barrow itself
    obtain ⟨u, u1, xu, -, -⟩ := oe_hr1 hV rx rx (by omega) hs hf (fun _ _ => rfl) o1 o2 (a := 99 - U) (b := 99 - U) (by omega) (by omega) (by omega) xU xU
    refine ⟨U + u, by omega, by show hr1 V (hrs V x n) _ = _; rw [xu]; exact congrArg nI (by omega), fun e y e9 hy ho ey => ?_⟩
    obtain ⟨A, B⟩ := all e y e9 hy ho ey
    by_cases c : U ≤ e
    · obtain ⟨A1, A2, A3⟩ := A c
      obtain ⟨ry, -, -⟩ := hrs_ok hy hV n (by omega)
      obtain ⟨u', u1', xu', P, Q⟩ := oe_hr1 hV rx ry (by omega) hs hf A1 o1 o2 (a := 99 - U) (b := e - U) (by omega) (by omega) (by omega) xU A2
      have uu : u' = u := by
        rw [xu, nI_eq (by omega) (by omega)] at xu'; omega
      subst uu
      refine ⟨fun z => ?_, fun z => ⟨n, by omega, Q (by omega)⟩⟩
      obtain ⟨P1, P2, P3⟩ := P (by omega)
      refine ⟨P1, by show hr1 V (hrs V y n) _ = _; rw [P2]; exact congrArg nI (by omega), fun i hi => ?_⟩
      by_cases c2 : i = n
      · subst c2; exact P3
      · exact A3 i (by omega)
    · obtain ⟨i, hi, ti⟩ := B (by omega)
      exact ⟨fun z => absurd z (by omega), fun _ => ⟨i, by omega, ti⟩⟩
end OE
