/-! a game of two -/
theorem and_N (a b : Nat) : nI a &&& nI b = nI (a &&& b) := by
  unfold nI
  apply Int32.toBitVec_inj.mp
  simp
theorem who_N : ∀ s, s < 6 → ∀ o, o < 6 → ∀ q, q < 6 → bit (((1 : Int32) <<< (nI s &&& 31)) ||| ((1 : Int32) <<< (nI o &&& 31))) (nI q) = (decide (q = s) || decide (q = o)) := by decide +kernel
theorem allB_t {p : Nat → Bool} : ∀ n, allB p n = true ↔ ∀ i, i < n → p i = true := by
  intro n
  induction n with
  | zero => exact ⟨fun _ i hi => absurd hi (by omega), fun _ => rfl⟩
  | succ n ih =>
    constructor
    · intro h i hi
      have h2 : (allB p n && p n) = true := h
      have h3 := (Bool.and_eq_true _ _).mp h2
      by_cases c : i = n
      · subst c; exact h3.2
      · exact ih.mp h3.1 i (by omega)
    · intro h
      show (allB p n && p n) = true
      rw [ih.mpr (fun i hi => h i (by omega)), h n (by omega)]; rfl
theorem knw2 {V : Vy} {hm : Nat} {r : Rw} (hV : VOk V) (hr : ROk V hm r) {s o t : Nat} (hs : s < vS' V) (ho : o < vS' V) (ht : t < vF V) : knw V r (((1 : Int32) <<< (nI s &&& 31)) ||| ((1 : Int32) <<< (nI o &&& 31))) (nI t) = bit (r (2 + s) &&& r (2 + o)) (nI t) := by
  have hS6 := hV.2.1
  have hF8 := hV.1
  obtain ⟨a, ha, ea⟩ := hr.2.1 s hs
  obtain ⟨b, hb, eb⟩ := hr.2.1 o ho
  have ha8 : a < 256 := Nat.lt_of_lt_of_le ha (Nat.pow_le_pow_right (by decide) hF8 : 2 ^ vF V ≤ 2 ^ 8)
  have hb8 : b < 256 := Nat.lt_of_lt_of_le hb (Nat.pow_le_pow_right (by decide) hF8 : 2 ^ vF V ≤ 2 ^ 8)
  have hab : a &&& b < 256 := Nat.lt_of_le_of_lt Nat.and_le_left ha8
  rw [ea, eb, and_N, bit_N _ hab t (by omega), Nat.testBit_and]
  rw [Bool.eq_iff_iff]
  unfold knw
  rw [allB_t]
  constructor
  · intro h
    have h1 := h s hs
    have h2 := h o ho
    simp only [who_N s (by omega) o (by omega) s (by omega), who_N s (by omega) o (by omega) o (by omega), ea, eb, bit_N a ha8 t (by omega), bit_N b hb8 t (by omega)] at h1 h2
    simp at h1 h2
    simp [h1, h2]
  · intro h q hq
    simp only [who_N s (by omega) o (by omega) q (by omega)]
    have h2 := (Bool.and_eq_true _ _).mp h
    by_cases c1 : q = s
    · subst c1; rw [ea, bit_N a ha8 t (by omega), h2.1]; simp
    · by_cases c2 : q = o
      · subst c2; rw [eb, bit_N b hb8 t (by omega), h2.2]; simp
      · simp [c1, c2]
/-- what one gains -/
def gnv (V : Vy) (r : Rw) (s t own others : Nat) : Int32 := if own = 0 then 0 else (if others = 0 then vA V t else vA V t / 2) - (if tre V r s t then fin V r s t 0 else 0)
def rsB (V : Vy) (r : Rw) (s o t a b : Nat) : Bool := decide (¬ gnv V r s t a b < gnv V r s t (1 - a) b) && decide (¬ gnv V r o t b a < gnv V r o t (1 - b) a)
def gst (V : Vy) (r : Rw) (s o t : Nat) : Nat → Nat × Int32
  | 0 => (0, -1)
  | c + 1 => if rsB V r s o t (c / 2) (c % 2) then ((gst V r s o t c).1 + 1, if (gst V r s o t c).2 = -1 then nI (c / 2 * 10 + c % 2) else (gst V r s o t c).2) else gst V r s o t c
theorem Cs.fr {V : Vy} {v hm : Nat} {S S' : St} (hc : Cs V v hm S) (hf : ∀ a, a ≠ 136 → a ≠ v + 14 → S' a = S a) : Cs V v hm S' := by
  have hv := hc.1.2.1
  exact hc.go (fun a h1 h2 h3 => hf a (by omega) h3) (hf 130 (by decide) (by omega)) (by rw [hf 131 (by decide) (by omega)]; exact hc.2.2.1) (fun i hi => by rw [hf 131 (by decide) (by omega)]) (hf 132 (by decide) (by omega))
theorem C_gain {V : Vy} {v hm : Nat} {S : St} (hc : Cs V v hm S) (h0 : S 0 3 = nI v) {s t own others : Nat} (hs : s < vS' V) (ht : t < vF V) (ho : own ≤ 1) (hb : others ≤ 1) : ok (fX9_gain (nI s) (nI t) (nI own) (nI others) S) (fun q => q.1 = gnv V (S 131) s t own others ∧ ∀ a, a ≠ 136 → a ≠ v + 14 → q.2 a = S a) := by
  have hV := hc.1.1
  have hF8 := hV.1
  have hv := hc.1.2.1
  have eA := (hc.1.2.2.2.2.2.2.2.1 t ht).1
  have ew := C_would hc hs ht
  unfold fX9_gain gnv
  simp (disch := omega) only [nI_leE, nI_ltE, nI_eqE, nI_m1, c0a, c0b, c0c, c0d, c0e, c1a, c1b, c1c, c1d, c1e, c2a, c2b, c2c, c2d, c2e, c3a, c3b, c3c, c3d, c3e, c4a, c4b, c4c, c4d, c4e, c5a, c5b, c5c, c5d, c5e, c6a, c6b, c6c, c6d, c6e, c7a, c7b, c7c, c7d, c7e, c8a, c8b, c8c, c8d, c8e, c9a, c9b, c9c, c9d, c9e, c10a, c10b, c10c, c10d, c10e, c12a, c12b, c12c, c12d, c12e, c14a, c14b, c14c, c14d, c14e, c16a, c16b, c16c, c16d, c16e, c20a, c20b, c20c, c20d, c20e, c30a, c30b, c30c, c30d, c30e, c32a, c32b, c32c, c32d, c32e, c36a, c36b, c36c, c36d, c36e, c40a, c40b, c40c, c40d, c40e, c41a, c41b, c41c, c41d, c41e, c42a, c42b, c42c, c42d, c42e, c43a, c43b, c43c, c43d, c43e, c45a, c45b, c45c, c45d, c45e, c47a, c47b, c47c, c47d, c47e, c48a, c48b, c48c, c48d, c48e, c57a, c57b, c57c, c57d, c57e, c59a, c59b, c59c, c59d, c59e, c60a, c60b, c60c, c60d, c60e, c61a, c61b, c61c, c61d, c61e, c62a, c62b, c62c, c62d, c62e, c64a, c64b, c64c, c64d, c64e, c96a, c96b, c96c, c96d, c96e, c97a, c97b, c97c, c97d, c97e, c98a, c98b, c98c, c98d, c98e, c99a, c99b, c99c, c99d, c99e, c100a, c100b, c100c, c100d, c100e, c122a, c122b, c122c, c122d, c122e, c700a, c700b, c700c, c700d, c700e, c4240a, c4240b, c4240c, c4240d, c4240e, c9999a, c9999b, c9999c, c9999d, c9999e, c100000a, c100000b, c100000c, c100000d, c100000e, c1000000a, c1000000b, c1000000c, c1000000d, c1000000e]
  by_cases c : own = 0
  · rw [if_pos c, if_pos c]; exact ok_some ⟨rfl, fun _ _ _ => rfl⟩
  · rw [if_neg c, if_neg c]
    have tail : ∀ x, ok (BX9_gain_34 (nI s) (nI t) x S) (fun q => q.1 = x - (if tre V (S 131) s t then fin V (S 131) s t 0 else 0) ∧ ∀ a, a ≠ 136 → a ≠ v + 14 → q.2 a = S a) := by
      intro x
      unfold BX9_gain_34
      rw [ew, bd_s]
      cases tre V (S 131) s t with
      | false =>
        simp only [Bool.false_eq_true, if_false, if_true]
        exact ok_some ⟨by simp, fun _ _ _ => rfl⟩
      | true =>
        simp only [if_true]
        rw [if_neg (by decide)]
        obtain ⟨⟨y, T⟩, e, p1, p2⟩ := C_fineOf hc (n := 0) hs ht
        rw [show (0 : Int32) = nI 0 from rfl, e, bd_s]
        exact ok_some ⟨by show x - y = _; rw [show y = _ from p1], p2⟩
    simp (disch := omega) only [gm_v h0 hv, srv3, srv4, srv5, srv6, srv7, srv8, srv9, srv10, srv11, srv12, srv13, rdv1, rdv2, rdv3, rdv4, rdv5, rdv6, rdv7, rdv8, rdv9, rdv10, rdv12, rdv14, eA]
    by_cases d : others = 0
    · rw [if_pos d, if_pos d]; exact tail _
    · rw [if_neg d, if_neg d]
      have : (dv (vA V t) 2 fun x6 => BX9_gain_34 (nI s) (nI t) x6 S) = BX9_gain_34 (nI s) (nI t) (vA V t / 2) S := rfl
      rw [this]; exact tail _
theorem M_gain {V : Vy} {hm : Nat} {S : St} (hM : VM V S) (hr : ROk V hm (mr S)) (hm9 : hm ≤ 20000) {s t own others : Nat} (hs : s < vS' V) (ht : t < vF V) (ho : own ≤ 1) (hb : others ≤ 1) : ok (fX10_gain (nI s) (nI t) (nI own) (nI others) S) (fun q => q.1 = gnv V (mr S) s t own others ∧ ∀ a, a ≠ 165 → a ≠ 166 → q.2 a = S a) := by
  have hV := hM.1
  have hF8 := hV.1
  have eA := (hM.2.2.2.2.2.2.1 t ht).1
  have ew := M_isTr hM hr hm9 hs ht
  unfold fX10_gain gnv
  simp (disch := omega) only [nI_leE, nI_ltE, nI_eqE, nI_m1, c0a, c0b, c0c, c0d, c0e, c1a, c1b, c1c, c1d, c1e, c2a, c2b, c2c, c2d, c2e, c3a, c3b, c3c, c3d, c3e, c4a, c4b, c4c, c4d, c4e, c5a, c5b, c5c, c5d, c5e, c6a, c6b, c6c, c6d, c6e, c7a, c7b, c7c, c7d, c7e, c8a, c8b, c8c, c8d, c8e, c9a, c9b, c9c, c9d, c9e, c10a, c10b, c10c, c10d, c10e, c12a, c12b, c12c, c12d, c12e, c14a, c14b, c14c, c14d, c14e, c16a, c16b, c16c, c16d, c16e, c20a, c20b, c20c, c20d, c20e, c30a, c30b, c30c, c30d, c30e, c32a, c32b, c32c, c32d, c32e, c36a, c36b, c36c, c36d, c36e, c40a, c40b, c40c, c40d, c40e, c41a, c41b, c41c, c41d, c41e, c42a, c42b, c42c, c42d, c42e, c43a, c43b, c43c, c43d, c43e, c45a, c45b, c45c, c45d, c45e, c47a, c47b, c47c, c47d, c47e, c48a, c48b, c48c, c48d, c48e, c57a, c57b, c57c, c57d, c57e, c59a, c59b, c59c, c59d, c59e, c60a, c60b, c60c, c60d, c60e, c61a, c61b, c61c, c61d, c61e, c62a, c62b, c62c, c62d, c62e, c64a, c64b, c64c, c64d, c64e, c96a, c96b, c96c, c96d, c96e, c97a, c97b, c97c, c97d, c97e, c98a, c98b, c98c, c98d, c98e, c99a, c99b, c99c, c99d, c99e, c100a, c100b, c100c, c100d, c100e, c122a, c122b, c122c, c122d, c122e, c700a, c700b, c700c, c700d, c700e, c4240a, c4240b, c4240c, c4240d, c4240e, c9999a, c9999b, c9999c, c9999d, c9999e, c100000a, c100000b, c100000c, c100000d, c100000e, c1000000a, c1000000b, c1000000c, c1000000d, c1000000e]
  by_cases c : own = 0
  · rw [if_pos c, if_pos c]; exact ok_some ⟨rfl, fun _ _ _ => rfl⟩
  · rw [if_neg c, if_neg c, ew, bd_s]
    have tail : ∀ (x : Int32) (T : St), T 146 = S 146 → (∀ a, a ≠ 165 → a ≠ 166 → T a = S a) → ok (BX10_gain_26 (nI t) (nI others) x T) (fun q => q.1 = (if others = 0 then vA V t else vA V t / 2) - x ∧ ∀ a, a ≠ 165 → a ≠ 166 → q.2 a = S a) := by
      intro x T hT hT2
      have eT : T 146 t = vA V t := by rw [hT]; exact eA
      unfold BX10_gain_26
      simp (disch := omega) only [nI_leE, nI_ltE, nI_eqE, nI_m1, c0a, c0b, c0c, c0d, c0e, c1a, c1b, c1c, c1d, c1e, c2a, c2b, c2c, c2d, c2e, c3a, c3b, c3c, c3d, c3e, c4a, c4b, c4c, c4d, c4e, c5a, c5b, c5c, c5d, c5e, c6a, c6b, c6c, c6d, c6e, c7a, c7b, c7c, c7d, c7e, c8a, c8b, c8c, c8d, c8e, c9a, c9b, c9c, c9d, c9e, c10a, c10b, c10c, c10d, c10e, c12a, c12b, c12c, c12d, c12e, c14a, c14b, c14c, c14d, c14e, c16a, c16b, c16c, c16d, c16e, c20a, c20b, c20c, c20d, c20e, c30a, c30b, c30c, c30d, c30e, c32a, c32b, c32c, c32d, c32e, c36a, c36b, c36c, c36d, c36e, c40a, c40b, c40c, c40d, c40e, c41a, c41b, c41c, c41d, c41e, c42a, c42b, c42c, c42d, c42e, c43a, c43b, c43c, c43d, c43e, c45a, c45b, c45c, c45d, c45e, c47a, c47b, c47c, c47d, c47e, c48a, c48b, c48c, c48d, c48e, c57a, c57b, c57c, c57d, c57e, c59a, c59b, c59c, c59d, c59e, c60a, c60b, c60c, c60d, c60e, c61a, c61b, c61c, c61d, c61e, c62a, c62b, c62c, c62d, c62e, c64a, c64b, c64c, c64d, c64e, c96a, c96b, c96c, c96d, c96e, c97a, c97b, c97c, c97d, c97e, c98a, c98b, c98c, c98d, c98e, c99a, c99b, c99c, c99d, c99e, c100a, c100b, c100c, c100d, c100e, c122a, c122b, c122c, c122d, c122e, c700a, c700b, c700c, c700d, c700e, c4240a, c4240b, c4240c, c4240d, c4240e, c9999a, c9999b, c9999c, c9999d, c9999e, c100000a, c100000b, c100000c, c100000d, c100000e, c1000000a, c1000000b, c1000000c, c1000000d, c1000000e, rd145, rd146, rd147, rd148, rd149, rd150, rd151, rd152, rd153, rd154, rd155, rd156, rd157, rd158, rd159, rd160, rd161, rd162, rd163, rd164, rd165, rd166, rd167, rd168, rd169, rd170, rd171, rd172, rd173, rd174, rd175, rd176, rd177, rd178, rd179, rd180, rd181, rd182, rd183, rd184, rd185, rd145_0, rd145_2, rd145_3, rd145_4, rd145_5, rd145_6, rd145_7, rd156_0, rd156_1, rd166_0, rd178_0, eT]
      by_cases d : others = 0
      · rw [if_neg (by omega), if_pos d]; exact ok_some ⟨rfl, hT2⟩
      · rw [if_pos (by omega), if_neg d]
        exact ok_some ⟨rfl, hT2⟩
    cases htr : tre V (mr S) s t with
    | false =>
      simp only [Bool.false_eq_true, if_false, if_true]
      exact tail 0 S rfl (fun _ _ _ => rfl)
    | true =>
      simp only [if_true]
      rw [if_neg (by decide)]
      obtain ⟨⟨y, T⟩, e, p1, p2⟩ := M_fineOf hM hr hm9 (n := 0) hs ht
      have p2' : ∀ a, a ≠ 165 → a ≠ 166 → T a = S a := p2
      rw [show (0 : Int32) = nI 0 from rfl, e, bd_s]
      have := tail y T (p2' 146 (by decide) (by decide)) p2'
      rw [show y = _ from p1] at this
      rw [show y = _ from p1]
      exact this
theorem C_rests {V : Vy} {v hm : Nat} {S : St} (hc : Cs V v hm S) (h0 : S 0 3 = nI v) {s o t a b : Nat} (hs : s < vS' V) (ho : o < vS' V) (ht : t < vF V) (ha : a ≤ 1) (hb : b ≤ 1) : ok (fX9_rests (nI s) (nI o) (nI t) (nI a) (nI b) S) (fun q => q.1 = b2i (rsB V (S 131) s o t a b) ∧ ∀ c, c ≠ 136 → c ≠ v + 14 → q.2 c = S c) := by
  have hv := hc.1.2.1
  have s1 : ∀ x, x ≤ 1 → (1 : Int32) - nI x = nI (1 - x) := fun x hx => by rw [show (1 : Int32) = nI 1 from rfl, pk_sub (by omega)]
  obtain ⟨⟨x1, S1⟩, e1, p1, q1⟩ := C_gain hc h0 hs ht ha hb
  have q1' : ∀ c, c ≠ 136 → c ≠ v + 14 → S1 c = S c := q1
  have c1 := hc.fr q1'
  obtain ⟨⟨x2, S2⟩, e2, p2, q2⟩ := C_gain (S := S1) c1 (by rw [q1' 0 (by decide) (by omega)]; exact h0) hs ht (own := 1 - a) (others := b) (by omega) hb
  have q2' : ∀ c, c ≠ 136 → c ≠ v + 14 → S2 c = S c := fun c h1 h2 => (q2 c h1 h2).trans (q1' c h1 h2)
  have c2 := hc.fr q2'
  obtain ⟨⟨x4, S4⟩, e4, p4, q4⟩ := C_gain (S := S2) c2 (by rw [q2' 0 (by decide) (by omega)]; exact h0) ho ht (own := b) (others := a) hb ha
  have q4' : ∀ c, c ≠ 136 → c ≠ v + 14 → S4 c = S c := fun c h1 h2 => (q4 c h1 h2).trans (q2' c h1 h2)
  have c4 := hc.fr q4'
  obtain ⟨⟨x5, S5⟩, e5, p5, q5⟩ := C_gain (S := S4) c4 (by rw [q4' 0 (by decide) (by omega)]; exact h0) ho ht (own := 1 - b) (others := a) (by omega) ha
  have q5' : ∀ c, c ≠ 136 → c ≠ v + 14 → S5 c = S c := fun c h1 h2 => (q5 c h1 h2).trans (q4' c h1 h2)
  have p1' : x1 = gnv V (S 131) s t a b := p1
  have p2' : x2 = gnv V (S 131) s t (1 - a) b := by rw [show x2 = _ from p2, q1' 131 (by decide) (by omega)]
  have p4' : x4 = gnv V (S 131) o t b a := by rw [show x4 = _ from p4, q2' 131 (by decide) (by omega)]
  have p5' : x5 = gnv V (S 131) o t (1 - b) a := by rw [show x5 = _ from p5, q4' 131 (by decide) (by omega)]
  unfold fX9_rests rsB
  rw [s1 a ha, s1 b hb, e1, bd_s, e2, bd_s, ← p1', ← p2', ← p4', ← p5']
  by_cases c : x1 < x2
  · rw [if_pos c]; exact ok_some ⟨by simp [c, b2i], q2'⟩
  · rw [if_neg c, e4, bd_s, e5, bd_s]
    by_cases d : x4 < x5
    · rw [if_pos d]; exact ok_some ⟨by simp [d, b2i], q5'⟩
    · rw [if_neg d]; exact ok_some ⟨by simp [c, d, b2i], q5'⟩
theorem gst_lt {V : Vy} {r : Rw} {s o t : Nat} : ∀ c, (gst V r s o t c).1 ≤ c := by
  intro c
  induction c with
  | zero => exact Nat.le_refl _
  | succ c ih =>
    show (if _ then _ else _ : Nat × Int32).1 ≤ _
    split
    · show (gst V r s o t c).1 + 1 ≤ c + 1; omega
    · omega
theorem rg_gnv {V : Vy} (hV : VOk V) {r r' : Rw} (h : rg V r r') {s t own others : Nat} (hs : s < vS' V) (ht : t < vF V) : gnv V r s t own others = gnv V r' s t own others := by
  unfold gnv
  rw [rg_tre hV h hs ht, rg_fin hV h hs]
theorem rg_gst {V : Vy} (hV : VOk V) {r r' : Rw} (h : rg V r r') {s o t : Nat} (hs : s < vS' V) (ho : o < vS' V) (ht : t < vF V) : ∀ c, gst V r s o t c = gst V r' s o t c := by
  intro c
  induction c with
  | zero => rfl
  | succ c ih =>
    show (if rsB V r s o t (c / 2) (c % 2) then _ else _) = (if rsB V r' s o t (c / 2) (c % 2) then _ else _)
    have : rsB V r s o t (c / 2) (c % 2) = rsB V r' s o t (c / 2) (c % 2) := by
      unfold rsB
      rw [rg_gnv hV h hs ht, rg_gnv hV h hs ht, rg_gnv hV h ho ht, rg_gnv hV h ho ht]
    rw [this, ih]
theorem C_game {V : Vy} {v : Nat} {S : St} (hc : Cs V v 10000 S) (h0 : S 0 3 = nI v) {s o t w : Nat} (hs : s < vS' V) (ho : o < vS' V) (ht : t < vF V) : ok (LX9_game_83 FU (nI s) (nI o) (nI t) (nI w) 0 (-1) 0 S) (fun q => q.1 = .inl (if nI w = 0 then nI (gst V (S 131) s o t 4).1 else (gst V (S 131) s o t 4).2) ∧ ∀ c, c ≠ 136 → c ≠ v + 14 → q.2 c = S c) := by
  have hv := hc.1.2.1
  refine ok_for (σ := (Int32 × Int32) × St) (fun k i W => LX9_game_83 k (nI s) (nI o) (nI t) (nI w) W.1.1 W.1.2 (nI i) W.2) _ (fun i W => W.1.1 = nI (gst V (S 131) s o t i).1 ∧ W.1.2 = (gst V (S 131) s o t i).2 ∧ ∀ c, c ≠ 136 → c ≠ v + 14 → W.2 c = S c) 4 ?_ ?_ FU 0 ((0, -1), S) (by omega) (by decide) ⟨rfl, rfl, fun _ _ _ => rfl⟩
  · intro k W hW
    show ok (KX9_game_83 (LX9_game_83 k) (nI s) (nI o) (nI t) (nI w) W.1.1 W.1.2 (nI 4) W.2) _
    unfold KX9_game_83
    rw [if_pos (by decide), hW.1, hW.2.1]
    by_cases c : nI w = 0
    · rw [if_pos c, if_pos c]; exact ok_some ⟨rfl, hW.2.2⟩
    · rw [if_neg c, if_neg c]; exact ok_some ⟨rfl, hW.2.2⟩
  · intro k i W hi hW ih
    obtain ⟨w1, w2, w3⟩ := hW
    have hcW := hc.fr w3
    have g1 : ∀ i, i < 4 → (nI i >>> ((1 : Int32) &&& 31)) = nI (i / 2) ∧ (nI i &&& 1) = nI (i % 2) ∧ (nI (i / 2) * 10 + nI (i % 2)) = nI (i / 2 * 10 + i % 2) ∧ ¬ (4 : Int32) ≤ nI i := by decide
    obtain ⟨z1, z2, z3, z4⟩ := g1 i hi
    obtain ⟨⟨x, T⟩, e, p1, p2⟩ := C_rests (S := W.2) hcW (by rw [w3 0 (by decide) (by omega)]; exact h0) hs ho ht (a := i / 2) (b := i % 2) (by omega) (by omega)
    have p2' : ∀ c, c ≠ 136 → c ≠ v + 14 → T c = S c := fun c h1 h2 => (p2 c h1 h2).trans (w3 c h1 h2)
    have p1' : x = b2i (rsB V (S 131) s o t (i / 2) (i % 2)) := by rw [show x = _ from p1, w3 131 (by decide) (by omega)]
    show ok (KX9_game_83 (LX9_game_83 k) (nI s) (nI o) (nI t) (nI w) W.1.1 W.1.2 (nI i) W.2) _
    unfold KX9_game_83 BX9_game_135 BX9_game_133 BX9_game_135
    rw [if_neg z4, z1, z2, e, bd_s, p1', vl_s, nI_1]
    cases hrs : rsB V (S 131) s o t (i / 2) (i % 2) with
    | false =>
      have eg : gst V (S 131) s o t (i + 1) = gst V (S 131) s o t i := by
        show (if rsB V (S 131) s o t (i / 2) (i % 2) then _ else _) = _
        rw [hrs]; rfl
      rw [if_pos (by rfl)]
      exact ih (W.1, T) ⟨by rw [eg]; exact w1, by rw [eg]; exact w2, p2'⟩
    | true =>
      have eg : gst V (S 131) s o t (i + 1) = ((gst V (S 131) s o t i).1 + 1, if (gst V (S 131) s o t i).2 = -1 then nI (i / 2 * 10 + i % 2) else (gst V (S 131) s o t i).2) := by
        show (if rsB V (S 131) s o t (i / 2) (i % 2) then _ else _) = _
        rw [hrs]; rfl
      rw [if_neg (by decide), w1, vl_s, nI_1, w2, vl_s, vl_s, z3]
      by_cases c : (gst V (S 131) s o t i).2 = -1
      · rw [if_pos c]
        exact ih ((nI ((gst V (S 131) s o t i).1 + 1), nI (i / 2 * 10 + i % 2)), T) ⟨by rw [eg], by rw [eg]; show _ = if _ then _ else _; rw [if_pos c], p2'⟩
      · rw [if_neg c]
        exact ih ((nI ((gst V (S 131) s o t i).1 + 1), (gst V (S 131) s o t i).2), T) ⟨by rw [eg], by rw [eg]; show _ = if _ then _ else _; rw [if_neg c], p2'⟩
theorem M_game {V : Vy} {S : St} (hM : VM V S) (hr : ROk V 10000 (mr S)) {s o t w : Nat} (hs : s < vS' V) (ho : o < vS' V) (ht : t < vF V) : ok (LX10_game_86 FU (nI s) (nI o) (nI t) (nI w) 0 (-1) 0 S) (fun q => q.1 = (if nI w = 0 then nI (gst V (mr S) s o t 4).1 else (gst V (mr S) s o t 4).2) ∧ ∀ c, c ≠ 165 → c ≠ 166 → q.2 c = S c) := by
  refine ok_for (σ := (Int32 × Int32) × St) (fun k i W => LX10_game_86 k (nI s) (nI o) (nI t) (nI w) W.1.1 W.1.2 (nI i) W.2) _ (fun i W => W.1.1 = nI (gst V (mr S) s o t i).1 ∧ W.1.2 = (gst V (mr S) s o t i).2 ∧ ∀ c, c ≠ 165 → c ≠ 166 → W.2 c = S c) 4 ?_ ?_ FU 0 ((0, -1), S) (by omega) (by decide) ⟨rfl, rfl, fun _ _ _ => rfl⟩
  · intro k W hW
    show ok (KX10_game_86 (LX10_game_86 k) (nI s) (nI o) (nI t) (nI w) W.1.1 W.1.2 (nI 4) W.2) _
    unfold KX10_game_86
    rw [if_pos (by decide), hW.1, hW.2.1]
    by_cases c : nI w = 0
    · rw [if_pos c, if_pos c]; exact ok_some ⟨rfl, hW.2.2⟩
    · rw [if_neg c, if_neg c]; exact ok_some ⟨rfl, hW.2.2⟩
  · intro k i W hi hW ih
    obtain ⟨w1, w2, w3⟩ := hW
    have s1 : ∀ x, x ≤ 1 → (1 : Int32) - nI x = nI (1 - x) := fun x hx => by rw [show (1 : Int32) = nI 1 from rfl, pk_sub (by omega)]
    have step : ∀ (T : St), (∀ c, c ≠ 165 → c ≠ 166 → T c = S c) → ∀ (q own others : Nat), q < vS' V → own ≤ 1 → others ≤ 1 → ∃ T1, fX10_gain (nI q) (nI t) (nI own) (nI others) T = some (gnv V (mr S) q t own others, T1) ∧ ∀ c, c ≠ 165 → c ≠ 166 → T1 c = S c := by
      intro T hT q own others hq h1 h2
      have em : mr T = mr S := mr_of hT
      obtain ⟨⟨x, T1⟩, e, p1, p2⟩ := M_gain (S := T) (hM.go (fun a ha => hT a (by omega) (by omega))) (by rw [em]; exact hr) (by decide) hq ht h1 h2
      exact ⟨T1, by rw [e, show x = _ from p1, em], fun c h1 h2 => (p2 c h1 h2).trans (hT c h1 h2)⟩
    obtain ⟨T1, e1, f1⟩ := step W.2 w3 s (1 - i / 2) (i % 2) hs (by omega) (by omega)
    obtain ⟨T2, e2, f2⟩ := step T1 f1 s (i / 2) (i % 2) hs (by omega) (by omega)
    obtain ⟨T3, e3, f3⟩ := step T2 f2 o (1 - i % 2) (i / 2) ho (by omega) (by omega)
    obtain ⟨T4, e4, f4⟩ := step T3 f3 o (i % 2) (i / 2) ho (by omega) (by omega)
    show ok (KX10_game_86 (LX10_game_86 k) (nI s) (nI o) (nI t) (nI w) W.1.1 W.1.2 (nI i) W.2) _
    unfold KX10_game_86 BX10_game_179 BX10_game_181
    have z4 : ¬ (4 : Int32) ≤ nI i := by
      have : ∀ i, i < 4 → ¬ (4 : Int32) ≤ nI i := by decide
      exact this i hi
    have z3 : (10 * nI (i / 2) + nI (i % 2)) = nI (i / 2 * 10 + i % 2) := by
      have : ∀ i, i < 4 → (10 * nI (i / 2) + nI (i % 2)) = nI (i / 2 * 10 + i % 2) := by decide
      exact this i hi
    rw [if_neg z4, show (2 : Int32) = nI 2 from rfl, dv_n (by omega) (by decide) (by decide), rm_n (by omega) (by decide) (by decide), s1 _ (by omega), e1, bd_s, e2, bd_s, s1 _ (by omega)]
    have stay : rsB V (mr S) s o t (i / 2) (i % 2) = false → gst V (mr S) s o t (i + 1) = gst V (mr S) s o t i := by
      intro hrs
      show (if rsB V (mr S) s o t (i / 2) (i % 2) then _ else _) = _
      rw [hrs]; rfl
    by_cases c : gnv V (mr S) s t (i / 2) (i % 2) < gnv V (mr S) s t (1 - i / 2) (i % 2)
    · have eg := stay (by unfold rsB; simp [c])
      rw [if_pos c, vl_s, nI_1]
      exact ih (W.1, T2) ⟨by rw [eg]; exact w1, by rw [eg]; exact w2, f2⟩
    · rw [if_neg c, e3, bd_s, e4, bd_s]
      have nlt : ∀ x y : Int32, (x ≤ y) = ¬ (y < x) := fun x y => propext (by rw [Int32.lt_iff_toInt_lt, Int32.le_iff_toInt_le]; omega)
      by_cases d : gnv V (mr S) o t (i % 2) (i / 2) < gnv V (mr S) o t (1 - i % 2) (i / 2)
      · have eg := stay (by unfold rsB; simp [d])
        rw [if_neg (by rw [nlt]; exact fun z => z d), vl_s, nI_1]
        exact ih (W.1, T4) ⟨by rw [eg]; exact w1, by rw [eg]; exact w2, f4⟩
      · rw [if_pos (by rw [nlt]; exact d)]
        have hrs : rsB V (mr S) s o t (i / 2) (i % 2) = true := by unfold rsB; simp [c, d]
        have eg : gst V (mr S) s o t (i + 1) = ((gst V (mr S) s o t i).1 + 1, if (gst V (mr S) s o t i).2 = -1 then nI (i / 2 * 10 + i % 2) else (gst V (mr S) s o t i).2) := by
          show (if rsB V (mr S) s o t (i / 2) (i % 2) then _ else _) = _
          rw [hrs]; rfl
        rw [w1, vl_s, nI_1, w2, vl_s, vl_s, nI_1, z3]
        by_cases c : (gst V (mr S) s o t i).2 = -1
        · rw [if_pos c]
          exact ih ((nI ((gst V (mr S) s o t i).1 + 1), nI (i / 2 * 10 + i % 2)), T4) ⟨by rw [eg], by rw [eg]; show _ = if _ then _ else _; rw [if_pos c], f4⟩
        · rw [if_neg c]
          exact ih ((nI ((gst V (mr S) s o t i).1 + 1), (gst V (mr S) s o t i).2), T4) ⟨by rw [eg], by rw [eg]; show _ = if _ then _ else _; rw [if_neg c], f4⟩
theorem A_game (a1 a2 a3 a4 : Int32) : Agr 2 (fX9_game a1 a2 a3 a4) (fX10_game a1 a2 a3 a4) := by
  refine look (fun S V v d hR => ?_)
  have hV := hR.vk
  have hS6 := hV.2.1
  have hF8 := hV.1
  have hv := hR.hv
  have hM0 : ∀ T, cK S T → VM V (up T 142 3 0) := fun T hT => (hR.c hT).M.go (fun a ha => up_ne (by omega))
  have fail1 : ∀ e1 : fX9_game a1 a2 a3 a4 S = some (.inr 1, S), (∀ T, cK S T → fX10_game a1 a2 a3 a4 T = BX10_game_40 (up T 142 3 0)) → ∃ w : Int32 ⊕ Nat, ok (fX9_game a1 a2 a3 a4 S) (fun q => q.1 = w ∧ cK S q.2) ∧ ∀ T, cK S T → ok (fX10_game a1 a2 a3 a4 T) (fun q => mK T q.2 ∧ match w with
      | .inl r => q.2 142 3 = 0 ∧ q.1 = r
      | .inr n => (n = 1 ∧ q.2 142 3 = 1) ∨ (n = 2 ∧ q.2 142 3 = 2)) := by
    intro e1 e2
    refine ⟨.inr 1, by rw [e1]; exact ok_some ⟨rfl, cK.rf⟩, fun T hT => ?_⟩
    rw [e2 T hT]
    unfold BX10_game_40
    rw [m_fail]
    exact ok_some ⟨mKx, Or.inl ⟨rfl, rfl⟩⟩
  rcases arg a1 (n := vS' V) (by omega) with ⟨s, hs, rfl⟩ | h1
  · rcases arg a2 (n := vS' V) (by omega) with ⟨o, ho, rfl⟩ | h2
    · rcases arg a3 (n := vF V) (by omega) with ⟨t, ht, rfl⟩ | h3
      · rcases arg2 a4 (lo := 0) (hi := 1) (by decide) (by decide) with ⟨w, -, hw, rfl⟩ | h4
        · have needs : fX9_needWhat (nI w) 1 S = some (.inl 0, S) := C_nW_t (m := 1) hw (by decide)
          obtain ⟨S1, e1, b1, b2, b3, b4, b5⟩ := C_begin (a2 := 37) hR.C rfl (by decide) hR.rok (by decide)
          have cls : fX9_game (nI s) (nI o) (nI t) (nI w) S = (if nI s = nI o then trx 2 S1 else bd (fX0_know (((1 : Int32) <<< (nI s &&& 31)) ||| ((1 : Int32) <<< (nI o &&& 31))) (nI t) S1) fun x11 S => (if x11 = 0 then trx 2 S else (LX9_game_83 FU (nI s) (nI o) (nI t) (nI w) 0 ((-1)) 0 S))) := by
            unfold fX9_game
            rw [C_nS_t hR hs, bt_s, C_nS_t hR ho, bt_s, C_nF_t hR ht, bt_s, needs, bt_s, gm_v hR.2.1 hv, e1, bv_s]
          have ref : ∀ T, cK S T → fX10_game (nI s) (nI o) (nI t) (nI w) T = (if nI s = nI o then BX10_game_71 (up T 142 3 0) else (if bit (S 37 (2 + s) &&& S 37 (2 + o)) (nI t) then LX10_game_86 FU (nI s) (nI o) (nI t) (nI w) 0 ((-1)) 0 (up T 142 3 0) else BX10_game_71 (up T 142 3 0))) := by
            intro T hT
            have k1 : up T 142 3 0 158 s = S 37 (2 + s) := by rw [up_ne (by decide), ← mr_k (S := T) (q := s) (by omega), hT.mr, hR.rag _ (rl_a (by omega) (by omega) (by omega))]
            have k2 : up T 142 3 0 158 o = S 37 (2 + o) := by rw [up_ne (by decide), ← mr_k (S := T) (q := o) (by omega), hT.mr, hR.rag _ (rl_a (by omega) (by omega) (by omega))]
            unfold fX10_game
            rw [pf_s, M_isS_t (hM0 T hT) hs, bd_s, if_neg (by decide), M_isS_t (hM0 T hT) ho, bd_s, if_neg (by decide), M_isF_t (hM0 T hT) ht, bd_s, if_neg (by decide), if_neg (nI_pos (by omega)), if_pos (show nI w ≤ 1 from nI_le hw (by decide)), rd158 (by omega), rd158 (by omega), M_isOf, k1, k2, bd_s]
            cases bit (S 37 (2 + s) &&& S 37 (2 + o)) (nI t) <;> rfl
          by_cases c : s = o
          · subst c
            refine ⟨.inr 2, ?_, fun T hT => ?_⟩
            · rw [cls, if_pos rfl]; exact ok_some ⟨rfl, cFr.k b5⟩
            · rw [ref T hT, if_pos rfl]
              unfold BX10_game_71
              rw [m_fail]
              exact ok_some ⟨mKx, Or.inr ⟨rfl, rfl⟩⟩
          · have hne : ¬ nI s = nI o := by rw [nI_eq (by omega) (by omega)]; exact c
            have ek : knw V (S1 131) (((1 : Int32) <<< (nI s &&& 31)) ||| ((1 : Int32) <<< (nI o &&& 31))) (nI t) = bit (S 37 (2 + s) &&& S 37 (2 + o)) (nI t) := by
              rw [rg_knw hV (b1.w hV), knw2 hV hR.rok hs ho ht]
            rw [if_neg hne, C_know b2.1 b2.2.1, bd_s, ek] at cls
            cases hb : bit (S 37 (2 + s) &&& S 37 (2 + o)) (nI t) with
            | false =>
              rw [hb] at cls
              refine ⟨.inr 2, ?_, fun T hT => ?_⟩
              · rw [cls]; exact ok_some ⟨rfl, cFr.k b5⟩
              · rw [ref T hT, if_neg hne, hb]
                unfold BX10_game_71
                rw [m_fail]
                exact ok_some ⟨mKx, Or.inr ⟨rfl, rfl⟩⟩
            | true =>
              rw [hb] at cls
              have cls2 : fX9_game (nI s) (nI o) (nI t) (nI w) S = LX9_game_83 FU (nI s) (nI o) (nI t) (nI w) 0 (-1) 0 S1 := by
                rw [cls]; exact if_neg (by decide)
              have s0 : S1 0 3 = nI v := by rw [b5 0 (by decide) (by decide) (by decide) (by decide) (by decide)]; exact hR.2.1
              obtain ⟨⟨x, S2⟩, e2, p1, p2⟩ := C_game b2 s0 (w := w) hs ho ht
              have p2' : ∀ c, c ≠ 136 → c ≠ v + 14 → S2 c = S1 c := p2
              refine ⟨.inl (if nI w = 0 then nI (gst V (S 37) s o t 4).1 else (gst V (S 37) s o t 4).2), ?_, fun T hT => ?_⟩
              · rw [cls2, e2]
                refine ok_some ⟨?_, fun a h1 h2 h3 h4 h5 => (p2' a (by omega) (by omega)).trans (b5 a (by omega) h2 h3 h4 h5)⟩
                show x = _
                rw [show x = _ from p1, rg_gst hV (b1.w hV) hs ho ht]
              · have m0 : mr (up T 142 3 0) = mr S := by rw [mr_up (by omega) (by omega), hT.mr]
                obtain ⟨⟨y, T2⟩, e3, q1, q2⟩ := M_game (S := up T 142 3 0) (w := w) (hM0 T hT) (by rw [m0]; exact hR.mok) hs ho ht
                have q2' : ∀ c, c ≠ 165 → c ≠ 166 → T2 c = up T 142 3 0 c := q2
                rw [ref T hT, if_neg hne, hb, if_pos rfl, e3]
                refine ok_some ⟨mK0.tr ⟨by rw [mr_of q2']; exact ag.rf, fun a ha => q2' a (by omega) (by omega), fun j hj => by show T2 142 j = _; rw [q2' 142 (by decide) (by decide)]⟩, ?_, ?_⟩
                · show T2 142 3 = 0
                  rw [q2' 142 (by decide) (by decide), up_at]
                · show y = _
                  rw [show y = _ from q1, m0, rg_gst hV hR.rag.sm hs ho ht]
        · refine fail1 ?_ (fun T hT => ?_)
          · unfold fX9_game
            rw [C_nS_t hR hs, bt_s, C_nS_t hR ho, bt_s, C_nF_t hR ht, bt_s, show fX9_needWhat a4 1 S = some (.inr 1, S) from C_nW_f (m := 1) (by decide) h4, bt_x]
          · unfold fX10_game
            rw [pf_s, M_isS_t (hM0 T hT) hs, bd_s, if_neg (by decide), M_isS_t (hM0 T hT) ho, bd_s, if_neg (by decide), M_isF_t (hM0 T hT) ht, bd_s, if_neg (by decide)]
            by_cases c : a4 < 0
            · rw [if_pos c]
            · rw [if_neg c, if_neg (show ¬ a4 ≤ 1 from ltle h4 (by decide) (by decide) c)]
      · refine fail1 ?_ (fun T hT => ?_)
        · unfold fX9_game
          rw [C_nS_t hR hs, bt_s, C_nS_t hR ho, bt_s, C_nF_f hR h3, bt_x]
        · unfold fX10_game
          rw [pf_s, M_isS_t (hM0 T hT) hs, bd_s, if_neg (by decide), M_isS_t (hM0 T hT) ho, bd_s, if_neg (by decide), M_isF_f (hM0 T hT) h3, bd_s, if_pos rfl]
    · refine fail1 ?_ (fun T hT => ?_)
      · unfold fX9_game
        rw [C_nS_t hR hs, bt_s, C_nS_f hR h2, bt_x]
      · unfold fX10_game
        rw [pf_s, M_isS_t (hM0 T hT) hs, bd_s, if_neg (by decide), M_isS_f (hM0 T hT) h2, bd_s, if_pos rfl]
  · refine fail1 ?_ (fun T hT => ?_)
    · unfold fX9_game
      rw [C_nS_f hR h1, bt_x]
    · unfold fX10_game
      rw [pf_s, M_isS_f (hM0 T hT) h1, bd_s, if_pos rfl]
