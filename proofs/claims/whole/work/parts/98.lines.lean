/-! lines of the text: class and reference side by side -/
def JW (B : Nat → Nat) (n d : Nat) (S T : St) (p : Nat) : Prop := (CT B n S p ∧ MT B n T p ∧ p ≤ n) ∧ TC B n S ∧ TM B n T ∧ S 32 2 = nI d ∧ S 32 3 = 0 ∧ (d = 2 ∨ d = 17) ∧ S 32 4 = -1
def JE (B : Nat → Nat) (n d : Nat) (S T : St) (c q : Nat) : Prop := S 32 2 = nI d ∧ S 32 3 = nI c ∧ S 32 4 = nI (tS B n q) ∧ T 142 24 = nI c ∧ T 142 25 = nI (tS B n q) ∧ 1 ≤ c ∧ c ≤ 5 ∧ q ≤ n
/-- what stays: outside the draft; outside the second halves -/
def cD (d : Nat) (S0 S : St) : Prop := ∀ a, (a < d ∨ d + 14 < a) → (a < 32 ∨ 35 < a) → S a = S0 a
def mD (T0 T : St) : Prop := (∀ a, (a < 142 ∨ 155 < a) → T a = T0 a) ∧ (∀ a, (a = 143 ∨ a = 144) → T a = T0 a) ∧ (∀ j, (j < 18 ∨ j = 19 ∨ 25 < j) → j ≠ 2 → j ≠ 27 → T 142 j = T0 142 j) ∧ (∀ j, j < 5 → T 145 j = T0 145 j) ∧ (∀ j, j < 8 → T 146 j = T0 146 j ∧ T 147 j = T0 147 j ∧ T 153 j = T0 153 j) ∧ (∀ j, j < 48 → T 148 j = T0 148 j) ∧ (∀ j, j < 64 → T 149 j = T0 149 j) ∧ (∀ j, j < 36 → T 150 j = T0 150 j) ∧ (∀ j, j < 6 → T 151 j = T0 151 j ∧ T 152 j = T0 152 j) ∧ ∀ j, j < 700 → T 154 j = T0 154 j ∧ T 155 j = T0 155 j
theorem cD.rf {d : Nat} {S : St} : cD d S S := fun _ _ _ => rfl
theorem cD.tr {d : Nat} {S T U : St} (h : cD d S T) (g : cD d T U) : cD d S U := fun a h1 h2 => (g a h1 h2).trans (h a h1 h2)
theorem mD.rf {T : St} : mD T T := ⟨fun _ _ => rfl, fun _ _ => rfl, fun _ _ _ _ => rfl, fun _ _ => rfl, fun _ _ => ⟨rfl, rfl, rfl⟩, fun _ _ => rfl, fun _ _ => rfl, fun _ _ => rfl, fun _ _ => ⟨rfl, rfl⟩, fun _ _ => ⟨rfl, rfl⟩⟩
theorem mD.tr {S T U : St} (h : mD S T) (g : mD T U) : mD S U := by
  obtain ⟨h1, h2, h3, h4, h5, h6, h7, h8, h9, h10⟩ := h
  obtain ⟨g1, g2, g3, g4, g5, g6, g7, g8, g9, g10⟩ := g
  exact ⟨fun a ha => (g1 a ha).trans (h1 a ha), fun a ha => (g2 a ha).trans (h2 a ha), fun j a b c => (g3 j a b c).trans (h3 j a b c), fun j hj => (g4 j hj).trans (h4 j hj), fun j hj => ⟨(g5 j hj).1.trans (h5 j hj).1, (g5 j hj).2.1.trans (h5 j hj).2.1, (g5 j hj).2.2.trans (h5 j hj).2.2⟩, fun j hj => (g6 j hj).trans (h6 j hj), fun j hj => (g7 j hj).trans (h7 j hj), fun j hj => (g8 j hj).trans (h8 j hj), fun j hj => ⟨(g9 j hj).1.trans (h9 j hj).1, (g9 j hj).2.trans (h9 j hj).2⟩, fun j hj => ⟨(g10 j hj).1.trans (h10 j hj).1, (g10 j hj).2.trans (h10 j hj).2⟩⟩
theorem up_nb {T : St} {a i : Nat} {x : Int32} {b j : Nat} (h : b ≠ a ∨ j ≠ i) : up T a i x b j = T b j := by rw [up_2, if_neg (by omega)]
theorem cD.up {d : Nat} {S T : St} (h : cD d S T) {a i : Nat} {x : Int32} (ha : (d ≤ a ∧ a ≤ d + 14) ∨ (32 ≤ a ∧ a ≤ 35)) : cD d S (up T a i x) := fun b h1 h2 => by rw [up_ne (by omega)]; exact h b h1 h2
theorem mD.up {S T : St} (h : mD S T) {a i : Nat} {x : Int32} (ha : (a = 142 ∧ ((18 ≤ i ∧ i ≤ 25 ∧ i ≠ 19) ∨ i = 2 ∨ i = 27)) ∨ (a = 145 ∧ 5 ≤ i) ∨ ((a = 146 ∨ a = 147 ∨ a = 153) ∧ 8 ≤ i) ∨ (a = 148 ∧ 48 ≤ i) ∨ (a = 149 ∧ 64 ≤ i) ∨ (a = 150 ∧ 36 ≤ i) ∨ ((a = 151 ∨ a = 152) ∧ 6 ≤ i) ∨ ((a = 154 ∨ a = 155) ∧ 700 ≤ i)) : mD S (up T a i x) := by
  obtain ⟨h1, h2, h3, h4, h5, h6, h7, h8, h9, h10⟩ := h
  refine ⟨fun b hb => by rw [up_ne (by omega)]; exact h1 b hb, fun b hb => by rw [up_ne (by omega)]; exact h2 b hb, fun j q1 q2 q3 => by rw [up_nb (b := 142) (j := j) (by omega)]; exact h3 j q1 q2 q3, fun j hj => by rw [up_nb (b := 145) (j := j) (by omega)]; exact h4 j hj, fun j hj => ?_, fun j hj => by rw [up_nb (b := 148) (j := j) (by omega)]; exact h6 j hj, fun j hj => by rw [up_nb (b := 149) (j := j) (by omega)]; exact h7 j hj, fun j hj => by rw [up_nb (b := 150) (j := j) (by omega)]; exact h8 j hj, fun j hj => ?_, fun j hj => ?_⟩
  · rw [up_nb (b := 146) (j := j) (by omega), up_nb (b := 147) (j := j) (by omega), up_nb (b := 153) (j := j) (by omega)]; exact h5 j hj
  · rw [up_nb (b := 151) (j := j) (by omega), up_nb (b := 152) (j := j) (by omega)]; exact h9 j hj
  · rw [up_nb (b := 154) (j := j) (by omega), up_nb (b := 155) (j := j) (by omega)]; exact h10 j hj
theorem mD.s {S T T' : St} (h : mD S T) (g : sFr T T') : mD S T' := by
  obtain ⟨h1, h2, h3, h4, h5, h6, h7, h8, h9, h10⟩ := h
  have r : ∀ b, b ≠ 142 → T' b = T b := g.1
  exact ⟨fun b hb => by rw [r b (by omega)]; exact h1 b hb, fun b hb => by rw [r b (by omega)]; exact h2 b hb, fun j q1 q2 q3 => by rw [g.2 j (by omega) (by omega) (by omega) (by omega) (by omega)]; exact h3 j q1 q2 q3, fun j hj => by rw [r 145 (by decide)]; exact h4 j hj, fun j hj => by rw [r 146 (by decide), r 147 (by decide), r 153 (by decide)]; exact h5 j hj, fun j hj => by rw [r 148 (by decide)]; exact h6 j hj, fun j hj => by rw [r 149 (by decide)]; exact h7 j hj, fun j hj => by rw [r 150 (by decide)]; exact h8 j hj, fun j hj => by rw [r 151 (by decide), r 152 (by decide)]; exact h9 j hj, fun j hj => by rw [r 154 (by decide), r 155 (by decide)]; exact h10 j hj⟩
section PR
variable {B : Nat → Nat} {n d p : Nat} {S T : St}
theorem JE.cb {c q : Nat} (h : JE B n d S T c q) : ¬ S 32 3 = 0 := by rw [h.2.1]; exact nI_ne0 h.2.2.2.2.2.1 (by have := h.2.2.2.2.2.2.1; omega)
theorem JE.mb {c q : Nat} (h : JE B n d S T c q) : ¬ T 142 24 = 0 := by rw [h.2.2.2.1]; exact nI_ne0 h.2.2.2.2.2.1 (by have := h.2.2.2.2.2.2.1; omega)
theorem JE.go {c q : Nat} {S' T' : St} (h : JE B n d S T c q) (h1 : S' 32 = S 32) (h2 : T' 142 24 = T 142 24) (h3 : T' 142 25 = T 142 25) : JE B n d S' T' c q := by
  unfold JE at h ⊢
  rw [h1, h2, h3]; exact h
/-! class: behind a fault -/
theorem c_pass_bad (hb : ¬ S 32 3 = 0) : fX6_pass S = some S := by unfold fX6_pass; rw [if_neg hb]
theorem c_passEnd_bad (hb : ¬ S 32 3 = 0) : fX6_passEnd S = some S := by unfold fX6_passEnd BX6_passEnd_25; rw [if_neg hb, c_pass_bad hb, bv_s]
theorem c_nh_bad {a b c : Int32} (hb : ¬ S 32 3 = 0) : fX6_numberHere a b c S = some (0, S) := by unfold fX6_numberHere; rw [if_neg hb]; rfl
theorem c_refuse_bad {c : Int32} (hb : ¬ S 32 3 = 0) : fX6_refuse c S = some (0, S) := by unfold fX6_refuse; rw [if_neg hb]; rfl
theorem c_fh_bad (hd : d = 2 ∨ d = 17) (h2 : S 32 2 = nI d) (hb : ¬ S 32 3 = 0) : fX6_fieldHere S = some (0, S) := by
  unfold fX6_fieldHere
  rw [gm_v h2 hd, c_nh_bad hb]; rfl
theorem c_sh_bad (hd : d = 2 ∨ d = 17) (h2 : S 32 2 = nI d) (hb : ¬ S 32 3 = 0) : fX6_singerHere S = some (0, S) := by
  unfold fX6_singerHere
  rw [gm_v h2 hd, c_nh_bad hb]; rfl
/-! reference: behind a fault -/
theorem m_nn_bad {a b : Int32} (hb : ¬ T 142 24 = 0) : fX10_numberNow a b T = some (0, T) := by unfold fX10_numberNow; rw [if_neg hb]; rfl
theorem m_rn_bad {a b : Int32} (hb : ¬ T 142 24 = 0) : fX10_readNumber a b T = some (0, T) := by unfold fX10_readNumber; rw [m_nn_bad hb, bd_s, if_neg hb]; rfl
theorem m_on_bad {a : Int32} (hb : ¬ T 142 24 = 0) : fX10_oneNow a T = some (0, T) := by unfold fX10_oneNow BX10_oneNow_33; rw [m_nn_bad hb, bd_s, if_neg hb, if_neg hb]; rfl
theorem m_ro_bad {a : Int32} (hb : ¬ T 142 24 = 0) : fX10_readOne a T = some (0, T) := by unfold fX10_readOne; rw [m_on_bad hb, bd_s, if_neg hb]; rfl
/-! going on; a fault -/
def flt (B : Nat → Nat) (n p c : Nat) (S : St) : St := up (up S 32 3 (nI c)) 32 4 (nI (tS B n p))
theorem c_refuse {c : Nat} (h : JW B n d S T p) : fX6_refuse (nI c) S = some (0, flt B n p c S) := by
  unfold fX6_refuse flt
  rw [h.2.2.2.2.1, if_pos rfl, pf_s, pf_s, up_ne (by decide), h.1.1.2.2.2.1]; rfl
theorem m_wrong {c : Nat} (h : JW B n d S T p) : fX10_wrong (nI c) T = some (wrT B n p c T) := M_wrong h.1.2.1
theorem JW.err {c : Nat} (h : JW B n d S T p) (c1 : 1 ≤ c) (c5 : c ≤ 5) : JE B n d (flt B n p c S) (wrT B n p c T) c p := by
  unfold flt wrT
  exact ⟨by rw [up_off (by decide), up_off (by decide)]; exact h.2.2.2.1, by rw [up_off (by decide), up_at], up_at, by rw [up_off (by decide), up_at], up_at, c1, c5, h.1.2.2⟩
theorem JW.step (h : JW B n d S T p) : ∃ S' T', fX7_advance S = some S' ∧ fX10_stepOn T = some T' ∧ JW B n d S' T' (tE B n p) ∧ (∀ a, a ≠ 33 → S' a = S a) ∧ sFr T T' := by
  obtain ⟨⟨hC, hM, hp⟩, hTC, hTM, h2, h3, hd⟩ := h
  obtain ⟨S', e1, c1, c2⟩ := C_adv hTC hC.1 hC.2.1 (tE_le (B := B) hp)
  obtain ⟨T', e2, m1, m2⟩ := M_step hTM (tE_le (B := B) hp) hM.2.2.2.2.2.2 hM.1 hM.2.1
  exact ⟨S', T', e1, e2, ⟨⟨c1, m1, tE_le hp⟩, hTC.go (c2 1 (by decide)), hTM.go (m2.1 157 (by decide)), by rw [c2 32 (by decide)]; exact h2, by rw [c2 32 (by decide)]; exact h3, hd.1, by rw [c2 32 (by decide)]; exact hd.2⟩, c2, m2⟩
theorem c_pass {S' : St} (h3 : S 32 3 = 0) (e : fX7_advance S = some S') : fX6_pass S = some S' := by unfold fX6_pass; rw [h3, if_pos rfl, e, bv_s]
theorem JW.mv {S' T' : St} (h : JW B n d S T p) (h1 : S' 1 = S 1) (h33 : S' 33 = S 33) (h32 : S' 32 = S 32) (t1 : T' 157 = T 157) (t2 : ∀ j, 18 ≤ j → j ≤ 24 → T' 142 j = T 142 j) : JW B n d S' T' p := by
  obtain ⟨⟨hC, hM, hp⟩, hTC, hTM, h2, h3, hd⟩ := h
  exact ⟨⟨hC.go h33, hM.go t2, hp⟩, hTC.go h1, hTM.go t1, by rw [h32]; exact h2, by rw [h32]; exact h3, hd.1, by rw [h32]; exact hd.2⟩
/-- a number: what fault, if any -/
def nE (B : Nat → Nat) (n lo hi fo p : Nat) : Option Nat := if tK B n p = 2 then (if tL B n p = true then some 2 else if tN B n p < lo ∨ hi < tN B n p then some fo else none) else some 1
theorem nE_none {lo hi fo : Nat} (h : nE B n lo hi fo p = none) : tK B n p = 2 ∧ tL B n p = false ∧ lo ≤ tN B n p ∧ tN B n p ≤ hi := by
  unfold nE at h
  split at h
  · rename_i c2
    split at h
    · cases h
    · rename_i c3
      split at h
      · cases h
      · exact ⟨c2, Bool.eq_false_iff.mpr c3, by omega, by omega⟩
  · cases h
theorem nE_some {lo hi fo c : Nat} (h : nE B n lo hi fo p = some c) (hf : 1 ≤ fo ∧ fo ≤ 5) : 1 ≤ c ∧ c ≤ 5 := by
  unfold nE at h
  repeat' split at h
  all_goals first | (cases h; done) | (cases h; omega)
theorem c_nh {lo hi fo : Nat} (h : JW B n d S T p) (hlo : lo < 2 ^ 31) (x : Int32) (hx : ∀ m, m ≤ 9999 → (nI m ≤ x ↔ m ≤ hi)) : fX6_numberHere (nI lo) x (nI fo) S = match nE B n lo hi fo p with
    | none => some (nI (tN B n p), S)
    | some c => some (0, flt B n p c S) := by
  obtain ⟨⟨hC, hM, hp⟩, hTC, hTM, h2, h3, hd⟩ := id h
  have hn := hTC.1
  have k61 := tK_le (B := B) (n := n) (p := p) hTC.B
  unfold fX6_numberHere nE
  rw [h3, if_pos rfl, hC.2.2.1]
  by_cases c2 : tK B n p = 2
  · rw [if_pos (by rw [c2]; rfl), if_pos c2, C_tooLong hTC hC hp, bd_s]
    cases hL : tL B n p with
    | true =>
      rw [b2i_t, if_neg (by decide), if_pos rfl, show (2 : Int32) = nI 2 from rfl, c_refuse h, bd_s]; rfl
    | false =>
      have l4 : tE B n p - tS B n p ≤ 4 := by
        unfold tL at hL; rw [decide_eq_true c2, Bool.true_and] at hL; have := of_decide_eq_false hL; omega
      have t9 := tN_lt hp hTC.B c2 l4
      rw [b2i_f, if_pos rfl, if_neg (show ¬ false = true by decide), hC.2.2.2.2 c2 l4]
      unfold BX6_numberHere_64
      by_cases cl : tN B n p < lo
      · rw [if_pos (nI_lt cl hlo), if_pos (Or.inl cl), c_refuse h, bd_s]; rfl
      · rw [if_neg (nI_nlt (by omega) (by omega))]
        by_cases ch : hi < tN B n p
        · rw [if_neg (fun z => by have := (hx _ t9).mp z; omega), if_pos (Or.inr ch), c_refuse h, bd_s]; rfl
        · rw [if_pos ((hx _ t9).mpr (by omega)), if_neg (by omega)]; rfl
  · rw [if_neg (show ¬ nI (tK B n p) = (2 : Int32) from by rw [show (2 : Int32) = nI 2 from rfl, nI_eq (by omega) (by omega)]; exact c2), if_neg c2, show (1 : Int32) = nI 1 from rfl, c_refuse h, bd_s]; rfl
theorem m_nn {lo hi : Nat} (h : JW B n d S T p) (hlo : lo < 2 ^ 31) (hhi : hi < 2 ^ 31) : fX10_numberNow (nI lo) (nI hi) T = match nE B n lo hi 2 p with
    | none => some (nI (tN B n p), T)
    | some c => some (0, wrT B n p c T) := by
  rw [M_nn h.2.2.1 h.1.2.1 h.1.2.2 hlo hhi]
  unfold nE
  by_cases c2 : tK B n p = 2
  · rw [if_pos c2, if_pos c2]
    by_cases cL : tL B n p = true
    · rw [if_pos (Or.inl cL), if_pos cL]
    · rw [if_neg cL]
      by_cases c3 : tN B n p < lo ∨ hi < tN B n p
      · rw [if_pos (Or.inr c3), if_pos c3]
      · rw [if_neg (by rintro (z | z); exact cL z; exact c3 z), if_neg c3]
  · rw [if_neg c2, if_neg c2]
/-- one of those told: a field, a singer -/
theorem m_on {F i : Nat} {x : Int32} (h : JW B n d S T p) (hx : x = nI i) (hi : 5 + i < 10) (hF : F ≤ 8) (e : T 145 (5 + i) = nI F) : fX10_oneNow x T = match nE B n 0 (F - 1) 3 p with
    | none => if F = 0 then some (0, wrT B n p 3 T) else some (nI (tN B n p), T)
    | some c => some (0, wrT B n p c T) := by
  have hT := h.2.2.1
  have hp := h.1.2.2
  have e33 : ∀ c y, 1 ≤ c → c ≤ 5 → BX10_oneNow_33 y (wrT B n p c T) = some (0, wrT B n p c T) := by
    intro c y h1 h5
    unfold BX10_oneNow_33
    rw [if_neg]
    · rfl
    · unfold wrT; rw [up_off (by decide), up_at]; exact nI_ne0 (by omega) (by omega)
  have eb : ∀ c, 1 ≤ c → c ≤ 5 → ¬ (wrT B n p c T) 142 24 = 0 := by
    intro c h1 h5
    unfold wrT; rw [up_off (by decide), up_at]; exact nI_ne0 (by omega) (by omega)
  subst hx
  unfold fX10_oneNow
  rw [show fX10_numberNow 0 9999 T = _ from m_nn (lo := 0) (hi := 9999) h (by decide) (by decide)]
  unfold nE
  by_cases c2 : tK B n p = 2
  · rw [if_pos c2, if_pos c2]
    by_cases cL : tL B n p = true
    · rw [if_pos cL, if_pos cL]
      show bd (some (0, wrT B n p 2 T)) _ = some (0, wrT B n p 2 T)
      rw [bd_s, if_neg (eb 2 (by decide) (by decide)), e33 2 _ (by decide) (by decide)]
    · have t9 : tN B n p ≤ 9999 := by
        refine tN_lt hp hT.B c2 ?_
        have hLf : tL B n p = false := Bool.eq_false_iff.mpr cL
        unfold tL at hLf; rw [decide_eq_true c2, Bool.true_and] at hLf; have := of_decide_eq_false hLf; omega
      rw [if_neg cL, if_neg cL, if_neg (by omega)]
      show bd (some (nI (tN B n p), T)) _ = _
      rw [bd_s, h.1.2.1.2.2.2.2.2.2, if_pos rfl, show (5 : Int32) = nI 5 from rfl, nI_add, rd145 hi, e]
      by_cases c3 : tN B n p < F
      · rw [if_pos (nI_lt c3 (by omega)), if_neg (by omega)]
        unfold BX10_oneNow_33
        rw [h.1.2.1.2.2.2.2.2.2, if_pos rfl, if_neg (by omega)]; rfl
      · rw [if_neg (nI_nlt (by omega) (by omega)), show (3 : Int32) = nI 3 from rfl, m_wrong h, bv_s, e33 3 _ (by decide) (by decide)]
        by_cases c4 : tN B n p < 0 ∨ F - 1 < tN B n p
        · rw [if_pos c4]
        · rw [if_neg c4, if_pos (by omega)]
  · rw [if_neg c2, if_neg c2]
    show bd (some (0, wrT B n p 1 T)) _ = some (0, wrT B n p 1 T)
    rw [bd_s, if_neg (eb 1 (by decide) (by decide)), e33 1 _ (by decide) (by decide)]
/-- which of those, or what fault -/
def oE (B : Nat → Nat) (n F p : Nat) : Option Nat := if F = 0 then (if tK B n p = 2 then (if tL B n p = true then some 2 else some 3) else some 1) else nE B n 0 (F - 1) 3 p
theorem oE_none {F : Nat} (h : oE B n F p = none) : tK B n p = 2 ∧ tL B n p = false ∧ tN B n p < F := by
  unfold oE at h
  by_cases c : F = 0
  · rw [if_pos c] at h
    repeat' split at h
    all_goals cases h
  · rw [if_neg c] at h
    have := nE_none h
    exact ⟨this.1, this.2.1, by omega⟩
theorem oE_some {F c : Nat} (h : oE B n F p = some c) : 1 ≤ c ∧ c ≤ 5 := by
  unfold oE at h
  by_cases q : F = 0
  · rw [if_pos q] at h
    repeat' split at h
    all_goals first | (cases h; done) | (cases h; omega)
  · rw [if_neg q] at h
    exact nE_some h (by omega)
theorem m_one {F i : Nat} {x : Int32} (h : JW B n d S T p) (hx : x = nI i) (hi : 5 + i < 10) (hF : F ≤ 8) (e : T 145 (5 + i) = nI F) : fX10_oneNow x T = match oE B n F p with
    | none => some (nI (tN B n p), T)
    | some c => some (0, wrT B n p c T) := by
  rw [m_on h hx hi hF e]
  unfold oE
  by_cases c : F = 0
  · subst c
    unfold nE
    by_cases c2 : tK B n p = 2
    · rw [if_pos c2, if_pos rfl, if_pos c2]
      by_cases cL : tL B n p = true
      · rw [if_pos cL, if_pos cL]; rfl
      · rw [if_neg cL, if_neg cL]
        by_cases c3 : tN B n p < 0 ∨ 0 - 1 < tN B n p
        · rw [if_pos c3]; rfl
        · rw [if_neg c3]; rfl
    · rw [if_neg c2, if_pos rfl, if_neg c2]; rfl
  · simp only [if_neg c]
theorem c_one {F : Nat} (h : JW B n d S T p) (hF : F ≤ 8) : fX6_numberHere 0 (nI F - 1) 3 S = match oE B n F p with
    | none => some (nI (tN B n p), S)
    | some c => some (0, flt B n p c S) := by
  by_cases c : F = 0
  · subst c
    have key := c_nh (lo := 0) (hi := 0) (fo := 3) h (by decide)
    -- no number is at most -1
    obtain ⟨⟨hC, hM, hp⟩, hTC, hTM, h2, h3, hd⟩ := id h
    have k61 := tK_le (B := B) (n := n) (p := p) hTC.B
    have hn := hTC.1
    unfold fX6_numberHere oE
    rw [h3, if_pos rfl, hC.2.2.1, if_pos rfl]
    by_cases c2 : tK B n p = 2
    · rw [if_pos (by rw [c2]; rfl), if_pos c2, C_tooLong hTC hC hp, bd_s]
      cases hL : tL B n p with
      | true => rw [b2i_t, if_neg (by decide), if_pos rfl, show (2 : Int32) = nI 2 from rfl, c_refuse h, bd_s]; rfl
      | false =>
        have l4 : tE B n p - tS B n p ≤ 4 := by
          unfold tL at hL; rw [decide_eq_true c2, Bool.true_and] at hL; have := of_decide_eq_false hL; omega
        have t9 := tN_lt hp hTC.B c2 l4
        rw [b2i_f, if_pos rfl, if_neg (show ¬ false = true by decide), hC.2.2.2.2 c2 l4]
        unfold BX6_numberHere_64
        rw [if_neg (show ¬ _ < (0 : Int32) from nI_pos (by omega)), if_neg, show (3 : Int32) = nI 3 from rfl, c_refuse h, bd_s]
        · rfl
        · intro z
          rw [Int32.le_iff_toInt_le, nI_toInt (by omega)] at z
          have : (nI 0 - 1).toInt = -1 := by decide
          omega
    · rw [if_neg (show ¬ nI (tK B n p) = (2 : Int32) from by rw [show (2 : Int32) = nI 2 from rfl, nI_eq (by omega) (by omega)]; exact c2), if_neg c2, show (1 : Int32) = nI 1 from rfl, c_refuse h, bd_s]; rfl
  · have e : nI F - 1 = nI (F - 1) := by rw [show (1 : Int32) = nI 1 from rfl, pk_sub (by omega)]
    unfold oE
    rw [if_neg c, e]
    exact c_nh (lo := 0) (hi := F - 1) (fo := 3) h (by decide) _ (fun m hm => nI_leI (by omega) (by omega))
theorem c_fh {F : Nat} (h : JW B n d S T p) (hF : F ≤ 8) (e : S d 0 = nI F) : fX6_fieldHere S = match oE B n F p with
    | none => some (nI (tN B n p), S)
    | some c => some (0, flt B n p c S) := by
  unfold fX6_fieldHere
  rw [gm_v h.2.2.2.1 h.2.2.2.2.2.1, e, c_one h hF]
  cases oE B n F p <;> rfl
theorem c_sh {F : Nat} (h : JW B n d S T p) (hF : F ≤ 8) (e : S d 2 = nI F) : fX6_singerHere S = match oE B n F p with
    | none => some (nI (tN B n p), S)
    | some c => some (0, flt B n p c S) := by
  unfold fX6_singerHere
  rw [gm_v h.2.2.2.1 h.2.2.2.2.2.1, e, c_one h hF]
  cases oE B n F p <;> rfl
/-- a line's end -/
theorem J_end (h : JW B n d S T p) : ∃ S' T', fX6_passEnd S = some S' ∧ fX10_mark 59 T = some T' ∧ (∀ a, a ≠ 32 → a ≠ 33 → S' a = S a) ∧ mD T T' ∧ (∀ a, a ≠ 142 → T' a = T a) ∧ (T' 142 2 = T 142 2 ∧ T' 142 27 = T 142 27) ∧ ((tK B n p = 59 ∧ JW B n d S' T' (tE B n p) ∧ S' 32 = S 32) ∨ JE B n d S' T' 1 p) := by
  obtain ⟨⟨hC, hM, hp⟩, hTC, hTM, h2, h3, hd⟩ := id h
  have k61 := tK_le (B := B) (n := n) (p := p) hTC.B
  unfold fX6_passEnd fX10_mark
  rw [h3, if_pos rfl, hC.2.2.1, hM.2.2.2.2.2.2, if_pos rfl, show fX10_isMarked 59 T = _ from M_isMarked (c := 59) hTM hM hp (by omega), bd_s]
  by_cases c : tK B n p = 59
  · obtain ⟨S', T', e1, e2, j, f1, f2⟩ := h.step
    refine ⟨S', T', ?_, ?_, fun a _ h33 => f1 a h33, mD.rf.s f2, f2.1, ⟨f2.2 2 (by decide) (by decide) (by decide) (by decide) (by decide), f2.2 27 (by decide) (by decide) (by decide) (by decide) (by decide)⟩, Or.inl ⟨c, j, f1 32 (by decide)⟩⟩
    · rw [if_pos (by rw [c]; rfl)]
      unfold BX6_passEnd_25
      rw [c_pass h3 e1, bv_s]
    · rw [decide_eq_true c, b2i_t, if_neg (by decide)]
      unfold BX10_mark_20
      rw [hM.2.2.2.2.2.2, if_pos rfl, e2, bv_s]
  · have je := h.err (c := 1) (by decide) (by decide)
    refine ⟨flt B n p 1 S, wrT B n p 1 T, ?_, ?_, fun a h32 _ => ?_, ?_, fun a ha => ?_, ?_, Or.inr je⟩
    · rw [if_neg (show ¬ nI (tK B n p) = (59 : Int32) from by rw [show (59 : Int32) = nI 59 from rfl, nI_eq (by omega) (by omega)]; exact c), show (1 : Int32) = nI 1 from rfl, c_refuse h, bd_s]
      unfold BX6_passEnd_25
      rw [c_pass_bad je.cb, bv_s]
    · rw [decide_eq_false c, b2i_f, if_pos rfl, show (1 : Int32) = nI 1 from rfl, m_wrong h, bv_s]
      unfold BX10_mark_20
      rw [if_neg je.mb]
    · unfold flt; rw [up_ne h32, up_ne h32]
    · unfold wrT; exact (mD.rf.up (by omega)).up (by omega)
    · unfold wrT; rw [up_ne ha, up_ne ha]
    · unfold wrT; rw [up_off (by decide), up_off (by decide), up_off (by decide), up_off (by decide)]; exact ⟨rfl, rfl⟩
theorem flt_c {c : Nat} : ∀ a, a ≠ 32 → flt B n p c S a = S a := fun a h => by unfold flt; rw [up_ne h, up_ne h]
theorem wrT_m {c : Nat} : mD T (wrT B n p c T) := by unfold wrT; exact (mD.rf.up (by omega)).up (by omega)
theorem wrT_c {c : Nat} : ∀ a, a ≠ 142 → wrT B n p c T a = T a := fun a h => by unfold wrT; rw [up_ne h, up_ne h]
end PR
