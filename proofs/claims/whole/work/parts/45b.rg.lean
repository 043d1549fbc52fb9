/-! rows that agree where it matters: not in what singers know who aren't there, nor in places of ways that aren't there -/
def rl (V : Vy) (i : Nat) : Prop := (i < 106 ∧ (i < 2 + vS' V ∨ 8 ≤ i) ∧ (i < 62 ∨ 98 ≤ i)) ∨ ∃ s k, s < vS' V ∧ k < vW V s ∧ i = 62 + s * 6 + k
def rg (V : Vy) (r r' : Rw) : Prop := ∀ i, rl V i → r i = r' i
theorem rl_a {V : Vy} {i : Nat} (h1 : i < 106) (h2 : i < 2 + vS' V ∨ 8 ≤ i) (h3 : i < 62 ∨ 98 ≤ i) : rl V i := Or.inl ⟨h1, h2, h3⟩
theorem rl_w {V : Vy} {s k : Nat} (hs : s < vS' V) (hk : k < vW V s) : rl V (62 + s * 6 + k) := Or.inr ⟨s, k, hs, hk, rfl⟩
theorem rl_lt {V : Vy} (hV : VOk V) {i : Nat} (h : rl V i) : i < 106 := by
  rcases h with h | ⟨s, k, hs, hk, rfl⟩
  · exact h.1
  · have := hV.2.1
    have := (hV.2.2.1 s hs).2
    omega
theorem ag.w {V : Vy} (hV : VOk V) {r r' : Rw} (h : ag r r') : rg V r r' := fun i hi => h i (rl_lt hV hi)
theorem rg.rf {V : Vy} {r : Rw} : rg V r r := fun _ _ => rfl
theorem rg.sm {V : Vy} {r r' : Rw} (h : rg V r r') : rg V r' r := fun i hi => (h i hi).symm
theorem rg.tr {V : Vy} {a b c : Rw} (h : rg V a b) (g : rg V b c) : rg V a c := fun i hi => (h i hi).trans (g i hi)
theorem rg_ROk {V : Vy} (hV : VOk V) {hm : Nat} {r r' : Rw} (h : rg V r r') (hr : ROk V hm r) : ROk V hm r' := by
  have hS := hV.2.1
  have hF := hV.1
  obtain ⟨h0, h1, h2, h3, h4, h5⟩ := hr
  refine ⟨by rw [← h 0 (rl_a (by omega) (by omega) (by omega))]; exact h0, fun q hq => by rw [← h _ (rl_a (by omega) (by omega) (by omega))]; exact h1 q hq, fun q hq => by rw [← h _ (rl_a (by omega) (by omega) (by omega))]; exact h2 q hq, fun a b ha hb => by rw [← h _ (rl_a (by omega) (by omega) (by omega))]; exact h3 a b ha hb, fun q i hq hi => ?_, fun t ht => by rw [← h _ (rl_a (by omega) (by omega) (by omega))]; exact h5 t ht⟩
  rw [← h _ (rl_w hq hi)]; exact h4 q i hq hi
theorem rg_pl {V : Vy} (hV : VOk V) {r r' : Rw} (h : rg V r r') {s : Nat} (hs : s < vS' V) : pl V r s = pl V r' s := by
  have hS := hV.2.1
  obtain ⟨w0, w6⟩ := hV.2.2.1 s hs
  have := Nat.mod_lt (r 0).toNatClampNeg w0
  unfold pl
  rw [← h 0 (rl_a (by omega) (by omega) (by omega)), h _ (rl_w hs this)]
theorem rg_plN {V : Vy} (hV : VOk V) {r r' : Rw} (h : rg V r r') {s : Nat} (hs : s < vS' V) : plN V r s = plN V r' s := by unfold plN; rw [rg_pl hV h hs]
theorem rg_tuA {V : Vy} (hV : VOk V) {r r' : Rw} (h : rg V r r') {s : Nat} (hs : s < vS' V) : tuA V r s = tuA V r' s := by
  have hS := hV.2.1
  unfold tuA
  rw [rg_pl hV h hs, h 0 (rl_a (by omega) (by omega) (by omega)), h (2 + s) (rl_a (by omega) (by omega) (by omega)), h (8 + s) (rl_a (by omega) (by omega) (by omega))]
theorem rg_tuI {V : Vy} (hV : VOk V) {r r' : Rw} (h : rg V r r') {s : Nat} (hs : s < vS' V) : tuI V r s = tuI V r' s := by
  have hS := hV.2.1
  unfold tuI
  rw [rg_tuA hV h hs, h (2 + s) (rl_a (by omega) (by omega) (by omega))]
theorem rg_hears {V : Vy} (hV : VOk V) {r r' : Rw} (h : rg V r r') {a : Nat} {b : Int32} {q : Nat} (hq : q < vS' V) : hears V r a b q = hears V r' a b q := by unfold hears; rw [rg_plN hV h hq]
theorem rg_hearN {V : Vy} (hV : VOk V) {r r' : Rw} (h : rg V r r') {a : Nat} {b : Int32} : hearN V r a b = hearN V r' a b := cnt_congr _ (fun i hi => rg_hears hV h hi)
theorem rg_spr {V : Vy} (hV : VOk V) {r r' : Rw} (h : rg V r r') {a : Nat} {b t : Int32} : rg V (spr V r a b t) (spr V r' a b t) := by
  intro i hi
  unfold spr
  by_cases q : 2 ≤ i ∧ i < 2 + vS' V
  · rw [rg_hears hV h (by omega), h i hi]
  · rw [if_neg (fun z => q ⟨z.1, z.2.1⟩), if_neg (fun z => q ⟨z.1, z.2.1⟩)]; exact h i hi
theorem rg_tre {V : Vy} (hV : VOk V) {r r' : Rw} (h : rg V r r') {s t : Nat} (hs : s < vS' V) (ht : t < vF V) : tre V r s t = tre V r' s t := by
  have hS := hV.2.1
  have hF := hV.1
  unfold tre
  rw [rg_pl hV h hs, h (14 + s * 8 + t) (rl_a (by omega) (by omega) (by omega)), h (98 + t) (rl_a (by omega) (by omega) (by omega))]
theorem rg_fin {V : Vy} (hV : VOk V) {r r' : Rw} (h : rg V r r') {s t n : Nat} (hs : s < vS' V) : fin V r s t n = fin V r' s t n := by
  have hS := hV.2.1
  unfold fin
  rw [rg_plN hV h hs, h (8 + s) (rl_a (by omega) (by omega) (by omega))]
theorem rg_upd {V : Vy} {r r' : Rw} (h : rg V r r') {i : Nat} {x : Int32} : rg V (upd r i x) (upd r' i x) := by
  intro j hj
  unfold upd
  split
  · rfl
  · exact h j hj
theorem rg_pay {V : Vy} {r r' : Rw} (h : rg V r r') {s o : Nat} {f : Int32} (hs : s < 6) (ho : o < 6) : rg V (pay r s o f) (pay r' s o f) := by
  unfold pay
  rw [h (8 + s) (rl_a (by omega) (by omega) (by omega)), h 1 (rl_a (by omega) (by omega) (by omega)), rg_upd h (8 + o) (rl_a (by omega) (by omega) (by omega))]
  exact rg_upd (rg_upd (rg_upd h))
theorem rg_snT {V : Vy} (hV : VOk V) {hm : Nat} {r r' : Rw} (h : rg V r r') (hr : ROk V hm r) {s t : Nat} (hs : s < vS' V) (ht : t < vF V) : rg V (snT V r s t) (snT V r' s t) := by
  have hS := hV.2.1
  have hF := hV.1
  unfold snT
  rw [rg_tre hV h hs ht, rg_hearN hV h, rg_fin hV h hs, rg_plN hV h hs, rg_pl hV h hs, h (14 + s * 8 + t) (rl_a (by omega) (by omega) (by omega))]
  have eo : ownN r t = ownN r' t := by unfold ownN; rw [h (98 + t) (rl_a (by omega) (by omega) (by omega))]
  have ho := own_lt hr hV ht
  rw [eo] at ho ⊢
  refine rg_spr hV ?_
  split
  · exact rg_pay h (by omega) ho
  · split
    · exact h
    · split
      · exact h
      · exact rg_upd h
theorem rg_sn {V : Vy} (hV : VOk V) {hm : Nat} {r r' : Rw} (h : rg V r r') (hr : ROk V hm r) (hm9 : hm ≤ 20000) {s : Nat} (hs : s < vS' V) : rg V (sn V r s) (sn V r' s) := by
  unfold sn
  rw [← rg_tuI hV h hs]
  rcases tuI_ok hr hV hm9 hs with h1 | ⟨t, ht, e, e2, -⟩
  · rw [if_pos h1, if_pos h1]; exact h
  · have hF := hV.1
    have : ¬ tuI V r s = -1 := by rw [e]; exact nI_ne_m1 (by omega)
    rw [if_neg this, if_neg this, e2]
    exact rg_snT hV h hr hs ht
theorem rg_sns {V : Vy} (hV : VOk V) {hm : Nat} {r r' : Rw} (h : rg V r r') (hr : ROk V hm r) (hm9 : hm ≤ 20000) : ∀ s, s ≤ vS' V → rg V (sns V r s) (sns V r' s) := by
  intro s
  induction s with
  | zero => intro _; exact h
  | succ s ih => intro hs; exact rg_sn hV (ih (by omega)) (sns_ok hr hV hm9 s (by omega)).1 hm9 (by omega)
theorem rg_hr1 {V : Vy} (hV : VOk V) {hm : Nat} {r r' : Rw} (h : rg V r r') (hr : ROk V hm r) (hm9 : hm ≤ 20000) : rg V (hr1 V r) (hr1 V r') := by
  have a := rg_sns hV h hr hm9 (vS' V) (Nat.le_refl _)
  unfold hr1
  rw [a 0 (rl_a (by omega) (by omega) (by omega))]
  exact rg_upd a
theorem rg_hrs {V : Vy} (hV : VOk V) {hm : Nat} {r r' : Rw} (h : rg V r r') (hr : ROk V hm r) : ∀ n, hm + n ≤ 20000 → rg V (hrs V r n) (hrs V r' n) := by
  intro n
  induction n with
  | zero => intro _; exact h
  | succ n ih => intro hn; exact rg_hr1 hV (ih (by omega)) (hrs_ok hr hV n (by omega)).1 (by omega)
theorem rg_sgI {V : Vy} (hV : VOk V) {hm : Nat} {r r' : Rw} (h : rg V r r') (hr : ROk V hm r) (hm9 : hm ≤ 20000) {s : Nat} (hs : s < vS' V) : sgI V r s = sgI V r' s := rg_tuI hV (rg_sns hV h hr hm9 s (by omega)) hs
theorem rg_trI {V : Vy} (hV : VOk V) {hm : Nat} {r r' : Rw} (h : rg V r r') (hr : ROk V hm r) (hm9 : hm ≤ 20000) {s : Nat} (hs : s < vS' V) : trI V r s = trI V r' s := by
  unfold trI
  rw [← rg_sgI hV h hr hm9 hs]
  have hF := hV.1
  obtain ⟨ro, -⟩ := sns_ok hr hV hm9 s (by omega)
  rcases tuI_ok ro hV hm9 hs with h1 | ⟨t, ht, e, e2, -⟩
  · have : sgI V r s = -1 := h1
    rw [if_pos this, if_pos this]
  · have e' : sgI V r s = nI t := e
    rw [e', nI_clamp (by omega), rg_tre hV (rg_sns hV h hr hm9 s (by omega)) hs ht]
theorem rg_trB {V : Vy} (hV : VOk V) {hm : Nat} {r r' : Rw} (h : rg V r r') (hr : ROk V hm r) {s : Nat} (hs : s < vS' V) : ∀ n, hm + n ≤ 20000 → trB V r s n = trB V r' s n := by
  intro n
  induction n with
  | zero => intro _; rfl
  | succ n ih =>
    intro hn
    show trB V r s n + _ = trB V r' s n + _
    rw [ih (by omega), rg_trI hV (rg_hrs hV h hr n (by omega)) (hrs_ok hr hV n (by omega)).1 (by omega) hs]
theorem rg_trT {V : Vy} (hV : VOk V) {hm : Nat} {r r' : Rw} (h : rg V r r') (hr : ROk V hm r) {t : Nat} : ∀ n, hm + n ≤ 20000 → trT V r t n = trT V r' t n := by
  intro n
  induction n with
  | zero => intro _; rfl
  | succ n ih =>
    intro hn
    show trT V r t n + _ = trT V r' t n + _
    rw [ih (by omega), cnt_congr _ (fun i hi => by rw [rg_trI hV (rg_hrs hV h hr n (by omega)) (hrs_ok hr hV n (by omega)).1 (by omega) hi])]
