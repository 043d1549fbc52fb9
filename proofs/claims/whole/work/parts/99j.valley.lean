/-! a text: what class and reference have in common behind it -/
theorem MG.go2 {g : Option Gf} {c i : Nat} {S S' : St} (h : MG g c i S) (h1 : S' 145 i = S 145 i) (h2 : ∀ j, j < 700 → S' c j = S c j) : MG g c i S' := by
  cases g with
  | none => unfold MG at h ⊢; rw [h1]; exact h
  | some g =>
    unfold MG at h ⊢
    obtain ⟨n, a, b, c1, d, e⟩ := h
    exact ⟨n, a, b, by rw [h1]; exact c1, d, fun T q => e T (fun j hj => by rw [q j hj, h2 j hj])⟩
theorem VM.go2 {V : Vy} {S S' : St} (h : VM V S) (h145 : ∀ j, j < 5 → S' 145 j = S 145 j) (h146 : ∀ j, j < 8 → S' 146 j = S 146 j ∧ S' 147 j = S 147 j) (h149 : ∀ j, j < 64 → S' 149 j = S 149 j) (h151 : ∀ j, j < 6 → S' 151 j = S 151 j) (h154 : ∀ j, j < 700 → S' 154 j = S 154 j ∧ S' 155 j = S 155 j) (h164 : S' 164 = S 164) : VM V S' := by
  obtain ⟨h0, h1, h2, h3, h4, h5, h6, h7, h8⟩ := h
  have hF := h0.1
  have hN := h0.2.1
  exact ⟨h0, by rw [h145 0 (by decide)]; exact h1, by rw [h145 2 (by decide)]; exact h2, fun s hs => by rw [h151 s (by omega)]; exact h3 s hs, fun a b ha hb => by rw [h149 _ (by omega)]; exact h4 a b ha hb, by rw [h164]; exact h5, fun t ht => by rw [(h146 t (by omega)).1, (h146 t (by omega)).2]; exact h6 t ht, h7.go2 (h145 3 (by decide)) (fun j hj => (h154 j hj).1), h8.go2 (h145 4 (by decide)) (fun j hj => (h154 j hj).2)⟩
theorem VX.go2 {V : Vy} {v : Nat} {S S' : St} (hV : VOk V) (h : VX V v S) (h1 : S' v = S v) (h2 : S' (v + 3) = S (v + 3)) (h3 : S' (v + 4) = S (v + 4)) (h4 : S' (v + 5) = S (v + 5)) (h5 : S' 145 1 = S 145 1) (h6 : ∀ j, j < 48 → S' 148 j = S 148 j) (h7 : ∀ j, j < 64 → S' 149 j = S 149 j) (h8 : S' 164 = S 164) : VX V v S' := by
  have hF := hV.1
  obtain ⟨q1, q2, q3, q4, q5⟩ := h
  refine ⟨by rw [h1, h5]; exact q1, fun t ht => ?_, q3, fun a ha => ?_, by rw [h4, h8]; exact q5⟩
  · obtain ⟨n, n6, e, ei⟩ := q2 t ht
    exact ⟨n, n6, e, fun i hi => by rw [h2, h6 _ (by omega)]; exact ei i hi⟩
  · rw [h3, q4 a ha]
    exact congrArg nI (hbits_congr _ (fun k hk => by rw [h7 _ (by omega)]))
/-- a refused text -/
theorem V_bad {V : Vy} {v d : Nat} {S U : St} {x : Int32} (h : Rl V v d S) (hc : ∀ a, 0 < a → a < 130 → (a < d ∨ d + 14 < a) → (a < 32 ∨ 35 < a) → a ≠ 82 → U a = S a) (h03 : ∀ j, j ≠ 1 → j ≠ 2 → U 0 j = S 0 j) (h01 : U 0 1 = 0) (h02 : U 0 2 = x) (h82 : U 82 = upd (S 82) 0 (S 82 0 + 1)) (h156 : U 156 = upd (S 156) 0 (S 156 0 + 1)) (hm : ∀ a, ((156 < a ∧ a < 186)) → U a = S a) (h17 : U 142 17 = 0) (h26 : U 142 26 = x) (h142 : ∀ j, (j = 34 ∨ j = 35 ∨ j = 36 ∨ j = 37 ∨ j = 41 ∨ j = 57 ∨ j = 58 ∨ j = 59) → U 142 j = S 142 j) (hD : (∀ j, j < 5 → U 145 j = S 145 j) ∧ (∀ j, j < 8 → U 146 j = S 146 j ∧ U 147 j = S 147 j) ∧ (∀ j, j < 48 → U 148 j = S 148 j) ∧ (∀ j, j < 64 → U 149 j = S 149 j) ∧ (∀ j, j < 6 → U 151 j = S 151 j) ∧ ∀ j, j < 700 → U 154 j = S 154 j ∧ U 155 j = S 155 j) : Rl V v d U := by
  obtain ⟨hv, e3, e4, ⟨hC, hM, hX⟩, hS, hT, hf, hz, hI⟩ := h
  obtain ⟨d1, d2, d3, d4, d5, d6⟩ := hD
  have hV := hC.1
  have c36 : ∀ a, 36 ≤ a → a < 130 → a ≠ 82 → U a = S a := fun a h1 h2 h3 => hc a (by omega) h2 (by omega) (by omega) h3
  have hmr : mr U = mr S := by
    funext j
    unfold mr
    rw [h142 34 (by omega), h142 35 (by omega), hm 158 (by omega), hm 159 (by omega), hm 160 (by omega), hm 161 (by omega), hm 162 (by omega)]
  refine ⟨hv, by rw [h03 3 (by decide) (by decide)]; exact e3, by rw [h03 4 (by decide) (by decide)]; exact e4, ⟨?_, ?_, ?_⟩, ?_, ⟨0, by decide, h01, h17, fun i hi => absurd hi (by omega)⟩, by rw [h02, h26], by rw [h142 41 (by omega)]; exact hz, ?_⟩
  · exact hC.go (fun a q1 q2 q3 => hc a (by omega) (by omega) (by omega) (by omega) (by omega))
  · exact hM.go2 d1 d2 d4 d5 d6 (hm 164 (by omega))
  · exact hX.go2 hV (hc _ (by omega) (by omega) (by omega) (by omega) (by omega)) (hc _ (by omega) (by omega) (by omega) (by omega) (by omega)) (hc _ (by omega) (by omega) (by omega) (by omega) (by omega)) (hc _ (by omega) (by omega) (by omega) (by omega) (by omega)) (d1 1 (by decide)) d3 d4 (hm 164 (by omega))
  · obtain ⟨a1, a2, ⟨n, hh, n4, q1, q2, q3⟩, ⟨m, m8, q4, qm, qi⟩, q5⟩ := hS
    have e37 := c36 (36 + 1) (by decide) (by decide) (by decide)
    have e36 := c36 36 (by decide) (by decide) (by decide)
    refine ⟨by rw [hmr, e37]; exact a1, by rw [e37]; exact a2, ⟨n, hh, n4, q1.go (by rw [e36]) (by rw [e36]) (fun a b1 b2 => c36 a (by omega) (by omega) (by omega)), by rw [hm 163 (by omega), h142 36 (by omega)]; exact q2, q3⟩, ⟨m, m8, by rw [e36]; exact q4, by rw [h142 37 (by omega)]; exact qm, fun i hi => ?_⟩, fun i hi => ?_⟩
    · rw [c36 (36 + 43) (by decide) (by decide) (by decide), c36 (36 + 44) (by decide) (by decide) (by decide), c36 (36 + 45) (by decide) (by decide) (by decide), hm 173 (by omega), hm 174 (by omega), hm 175 (by omega)]; exact qi i hi
    · show U 82 i = U 156 i
      rw [h82, h156]
      unfold upd
      split
      · have := q5 0 (by decide)
        rw [show S 82 0 = S 156 0 from this]
      · exact q5 i hi
  · unfold Im at hI ⊢
    rw [h03 8 (by decide) (by decide), h142 57 (by omega), h142 58 (by omega), h142 59 (by omega), hm 180 (by omega), hm 181 (by omega), hm 182 (by omega), hm 183 (by omega), hm 184 (by omega), hm 185 (by omega)]
    rcases hI with q | ⟨q1, q2, q3⟩
    · exact Or.inl q
    · exact Or.inr ⟨q1, q2, q3.go (fun a b1 b2 => c36 a (by omega) (by omega) (by omega)) rg.rf⟩
def mkV (F N : Nat) (W : Nat → Nat) (w : Nat → Nat → Nat) (ac tn : Nat → Int32) (sX fX : Option (List Nat)) : Vy := ((F, N), W, (fun a b => decide (b = a ∨ w a b ≠ 0)), (fun a b => nI (if fw w F a b < 10000 then fw w F a b else 99)), ac, tn, sX.map gOf, fX.map gOf)
theorem hb_ext {p : Nat → Bool} {F : Nat} (h : ∀ k, F ≤ k → p k = false) : ∀ j, hbits p (F + j) = hbits p F := by
  intro j
  induction j with
  | zero => rfl
  | succ j ih =>
    show hbits p (F + j) + (if p (F + j) then 2 ^ (F + j) else 0) = _
    rw [ih, h _ (by omega)]; rfl
theorem VG_of {d rid st e : Nat} {sg : Bool} {S T U : St} {X : Option (List Nat)} (hR : RuS rid (d + 10) st) (h : RU d rid sg S T X e) (he : e ≤ 700) (h1 : U rid = S rid) (h2 : U (d + 10) = S (d + 10)) : VG (X.map gOf) rid (d + 10) st U := by
  obtain ⟨h3, h⟩ := h
  cases X with
  | none => show U rid 0 = 0; rw [h1]; exact h.1
  | some A =>
    obtain ⟨q1, ⟨f, q2, q3, q4⟩, q5, q6, q7, q8, q9⟩ := h
    refine ⟨by rw [h1, q1]; decide, gOf_5 q8, RC_of hR q8 q7 (by rw [h1]; exact q2) (by rw [h1, h3, q3]) (by omega) (q4.go h2)⟩
theorem MG_of {d rid e i c : Nat} {sg : Bool} {S T U : St} {X : Option (List Nat)} (hc : c = 154 ∨ c = 155) (hs : sgc sg = c) (h : RU d rid sg S T X e) (h1 : U 145 i = T 145 (whs sg)) (h2 : ∀ j, j < 700 → U c j = T c (700 + j)) : MG (X.map gOf) c i U := by
  obtain ⟨h3, h⟩ := h
  cases X with
  | none => show U 145 i = 0; rw [h1]; exact h.2.2
  | some A =>
    obtain ⟨q1, -, q5, q6, q7, q8, q9, q10⟩ := h
    exact ⟨A.length, by omega, q10, by rw [h1]; exact q5, gOf_5 q8, RM_of hc q8 q7 q10 (fun j hj => by rw [h2 j (by omega), ← hs]; exact q6 j hj)⟩
/-- a text that is taken -/
theorem V_good {d v F P N e1 e2 : Nat} {S T U : St} {sX fX : Option (List Nat)} {w : Nat → Nat → Nat} (hdv : d = 2 ∧ v = 17 ∨ d = 17 ∧ v = 2) (hD : RD d S T F P N sX fX e1 e2) (he1 : e1 ≤ 700) (he2 : e2 ≤ 700)
    (w1 : ∀ a b, w a b ≤ 20 ∧ w a b = w b a ∧ (w a b ≠ 0 → a < F ∧ b < F ∧ a ≠ b)) (w2 : ∀ a, a < 8 → S (d + 4) a = nI (hbits (fun k => decide (w a k ≠ 0)) 8) ∧ ∀ b, b < 8 → T 149 (64 + 8 * a + b) = nI (w a b))
    (hc : ∀ a, d ≤ a → a ≤ d + 13 → a ≠ d + 5 → U a = S a) (h5 : ∀ a b, a < F → b < F → U (d + 5) (a * 8 + b) = nI (cS (fw w F a b)))
    (h0 : U 0 1 = 0 ∧ U 0 2 = -1 ∧ U 0 3 = nI d ∧ U 0 4 = nI v ∧ U 0 8 = 0) (h36 : U 36 2 = 0 ∧ U 36 3 = 0 ∧ U 36 4 = 0)
    (h37 : ∀ i, i < 106 → U 37 i = if 2 ≤ i ∧ i < 8 then S (d + 8) (i - 2) else if 62 ≤ i ∧ i < 98 then S (d + 7) (i - 62) else if 98 ≤ i then S (d + 9) (i - 98) else 0)
    (h82 : ∀ i, i < 3 → U 82 i = U 156 i)
    (h145 : ∀ j, j < 5 → U 145 j = T 145 (5 + j)) (h146 : ∀ j, j < 8 → U 146 j = T 146 (8 + j) ∧ U 147 j = T 147 (8 + j)) (h148 : ∀ j, j < 48 → U 148 j = T 148 (48 + j)) (h149 : ∀ j, j < 64 → U 149 j = T 149 (64 + j)) (h151 : ∀ j, j < 6 → U 151 j = T 151 (6 + j)) (h154 : ∀ j, j < 700 → U 154 j = T 154 (700 + j) ∧ U 155 j = T 155 (700 + j))
    (h158 : ∀ s, s < 6 → U 158 s = (if s < N then T 152 (6 + s) else 0) ∧ U 159 s = 0) (h160 : ∀ j, j < 48 → U 160 j = 0) (h161 : ∀ j, j < 36 → U 161 j = T 150 (36 + j)) (h162 : ∀ f, f < 8 → U 162 f = if f < F then T 153 (8 + f) else -1) (h164 : ∀ a b, a < F → b < F → U 164 (8 * a + b) = nI (fw w F a b))
    (h142 : U 142 17 = 0 ∧ U 142 26 = -1 ∧ U 142 34 = 0 ∧ U 142 35 = 0 ∧ U 142 36 = 0 ∧ U 142 37 = 0 ∧ U 142 41 = -1 ∧ U 142 57 = 0) : Rel U := by
  obtain ⟨⟨hF, hP, hN⟩, ⟨s0, s1, s2⟩, ⟨t5, t6, t7⟩, dF, -, dS, dO, dR1, dR2⟩ := hD
  have hd : d = 2 ∨ d = 17 := by omega
  have hw : ∀ a b, w a b ≤ 20 := fun a b => (w1 a b).1
  generalize hW : (fun s => (S (d + 6) s).toNatClampNeg) = W
  have eW : ∀ s, s < N → 1 ≤ W s ∧ W s ≤ 6 ∧ S (d + 6) s = nI (W s) ∧ T 151 (6 + s) = nI (W s) ∧ ∀ i, i < W s → ∃ f, f < F ∧ S (d + 7) (s * 6 + i) = nI f ∧ T 150 (6 * (6 + s) + i) = nI f := by
    intro s hs
    obtain ⟨⟨x, x1, x2, x3, x4, x5⟩, -⟩ := dS s hs
    have : W s = x := by rw [← hW]; show (S (d + 6) s).toNatClampNeg = x; rw [x3, nI_clamp (by omega)]
    rw [this]; exact ⟨x1, x2, x3, x4, x5⟩
  have bd2 : ∀ a b, fw w F a b ≤ 5120 ∨ fw w F a b = 100000 := fun a b => fw_bd2 hw hF a b
  generalize hVe : mkV F N W w (fun t => S (d + 1) t) (fun t => S (d + 2) t) sX fX = V
  have vF' : vF V = F := by rw [← hVe]; rfl
  have vSe : vS' V = N := by rw [← hVe]; rfl
  have vWe : ∀ s, vW V s = W s := fun s => by rw [← hVe]; rfl
  have hV : VOk V := by
    refine ⟨by rw [vF']; exact hF, by rw [vSe]; exact hN, fun s hs => ?_, fun h => ?_, fun a b _ _ => ⟨if fw w F a b < 10000 then fw w F a b else 99, by split <;> omega, by rw [← hVe]; rfl⟩, fun a => by rw [← hVe]; exact decide_eq_true (Or.inl rfl)⟩
    · rw [vSe] at hs; rw [vWe]
      obtain ⟨x1, x2, -⟩ := eW s hs
      omega
    · rw [vSe] at h; rw [vF']
      obtain ⟨x1, x2, -, -, x5⟩ := eW 0 h
      obtain ⟨f, f1, -⟩ := x5 0 (by omega)
      omega
  have u149 : ∀ a b, a < F → b < F → U 149 (8 * a + b) = nI (w a b) := fun a b ha hb => by
    rw [h149 _ (by omega), show 64 + (8 * a + b) = 64 + 8 * a + b by omega]; exact (w2 a (by omega)).2 b (by omega)
  have neg0 : ∀ a b, (¬ nI (w a b) ≤ (0 : Int32)) ↔ w a b ≠ 0 := fun a b => by
    have := hw a b
    rw [show (0 : Int32) = nI 0 from rfl, nI_leI (by omega) (by omega)]; omega
  have uD0 := hc d (by omega) (by omega) (by omega)
  have rs1 : RuS (d + 11) (d + 10) (d + 12) := by rcases hd with rfl | rfl <;> (unfold RuS; omega)
  have rs2 : RuS (d + 13) (d + 10) (d + 14) := by rcases hd with rfl | rfl <;> (unfold RuS; omega)
  have hVC : VC V d U := by
    refine ⟨hV, hd, by rw [uD0, vF']; exact s0, by rw [uD0, vSe]; exact s2, fun s hs => ?_, fun a b ha hb => ?_, fun a b ha hb => ?_, fun t ht => ?_, ?_, ?_⟩
    · rw [vSe] at hs
      rw [hc _ (by omega) (by omega) (by omega), vWe]; exact (eW s hs).2.2.1
    · rw [vF'] at ha hb
      rw [hc _ (by omega) (by omega) (by omega), (w2 a (by omega)).1, pw_N a (by omega), or_N, ← hb_or (p' := fun q => decide (q = a ∨ w a q ≠ 0)) (by omega) (fun q _ => ?_), hb_bit (by omega), ← hVe]
      · rfl
      · by_cases c : q = a
        · rw [decide_eq_true (Or.inl c), decide_eq_true c.symm, Bool.or_true]
        · rw [decide_eq_false (show ¬ a = q from fun z => c z.symm), Bool.or_false]
          by_cases c2 : w a q ≠ 0
          · rw [decide_eq_true (Or.inr c2), decide_eq_true c2]
          · rw [decide_eq_false (by rintro (z | z); exact c z; exact c2 z), decide_eq_false c2]
    · rw [vF'] at ha hb
      rw [h5 a b ha hb, ← hVe]
      show _ = nI (if fw w F a b < 10000 then fw w F a b else 99)
      unfold cS
      rcases bd2 a b with q | q
      · rw [if_pos (show fw w F a b < 10000 by omega), if_pos (show fw w F a b < 10000 by omega), if_pos (show nI (fw w F a b) < (1000000 : Int32) from nI_lt (b := 1000000) (by omega) (by decide))]
      · rw [q]; rfl
    · rw [hc _ (by omega) (by omega) (by omega), hc _ (by omega) (by omega) (by omega), ← hVe]; exact ⟨rfl, rfl⟩
    · have := VG_of (U := U) rs1 dR1 he1 (hc _ (by omega) (by omega) (by omega)) (hc _ (by omega) (by omega) (by omega))
      rw [← hVe]; exact this
    · have := VG_of (U := U) rs2 dR2 he2 (hc _ (by omega) (by omega) (by omega)) (hc _ (by omega) (by omega) (by omega))
      rw [← hVe]; exact this
  have hVM : VM V U := by
    refine ⟨hV, by rw [h145 0 (by decide), vF']; exact t5, by rw [h145 2 (by decide), vSe]; exact t7, fun s hs => ?_, fun a b ha hb => ?_, fun a b ha hb => ?_, fun t ht => ?_, ?_, ?_⟩
    · rw [vSe] at hs
      rw [h151 s (by omega), vWe]; exact (eW s hs).2.2.2.1
    · rw [vF'] at ha hb
      rw [u149 a b ha hb, ← hVe]
      show decide (b = a ∨ ¬ nI (w a b) ≤ 0) = decide (b = a ∨ w a b ≠ 0)
      by_cases c : b = a ∨ w a b ≠ 0
      · rw [decide_eq_true c, decide_eq_true (by rcases c with q | q; exact Or.inl q; exact Or.inr ((neg0 a b).mpr q))]
      · rw [decide_eq_false c, decide_eq_false (by rintro (q | q); exact c (Or.inl q); exact c (Or.inr ((neg0 a b).mp q)))]
    · rw [vF'] at ha hb
      rw [h164 a b ha hb, ← hVe]
      show _ = nI (if fw w F a b < 10000 then fw w F a b else 99)
      rcases bd2 a b with q | q
      · rw [if_pos (show fw w F a b < 10000 by omega), if_pos (show nI (fw w F a b) < (100000 : Int32) from nI_lt (b := 100000) (by omega) (by decide))]
      · rw [q]; rfl
    · rw [vF'] at ht
      obtain ⟨⟨a, a1, a2, a3, a4⟩, m, m1, m2, m3, m4⟩ := dF t ht
      rw [(h146 t (by omega)).1, (h146 t (by omega)).2, a4, m3, ← hVe]
      exact ⟨a3.symm, m2.symm⟩
    · have := MG_of (U := U) (i := 3) (Or.inl rfl) rfl dR1 (h145 3 (by decide)) (fun j hj => (h154 j hj).1)
      rw [← hVe]; exact this
    · have := MG_of (U := U) (i := 4) (Or.inr rfl) rfl dR2 (h145 4 (by decide)) (fun j hj => (h154 j hj).2)
      rw [← hVe]; exact this
  have hVX : VX V d U := by
    refine ⟨by rw [uD0, h145 1 (by decide), s1]; exact t6.symm, fun t ht => ?_, fun t ht => ?_, fun a ha => ?_, fw w F, fun a b ha hb => ⟨?_, ?_⟩, fun a _ => fw_d F a, fun a b c _ hb _ => fw_tri F a c b (by rw [vF'] at hb; exact hb), fun a b _ _ => by rcases bd2 a b with q | q <;> omega⟩
    · rw [vF'] at ht
      obtain ⟨-, m, m1, m2, m3, m4⟩ := dF t ht
      refine ⟨m, m1, by rw [← hVe]; exact m2, fun i hi => ?_⟩
      rw [hc _ (by omega) (by omega) (by omega), h148 _ (by omega), show 48 + (6 * t + i) = 6 * (8 + t) + i by omega]; exact m4 i hi
    · rw [vF'] at ht
      obtain ⟨⟨a, a1, a2, a3, a4⟩, -⟩ := dF t ht
      exact ⟨a, a1, a2, by rw [← hVe]; exact a3⟩
    · rw [vF'] at ha ⊢
      rw [hc _ (by omega) (by omega) (by omega), (w2 a (by omega)).1]
      have := hb_ext (p := fun k => decide (w a k ≠ 0)) (F := F) (fun k hk => decide_eq_false (fun z => by have := (w1 a k).2.2 z; omega)) (8 - F)
      rw [show F + (8 - F) = 8 by omega] at this
      rw [this]
      refine congrArg nI (hbits_congr _ (fun k hk => ?_))
      rw [u149 a k ha hk]
      by_cases c : w a k ≠ 0
      · rw [decide_eq_true c, decide_eq_true ((neg0 a k).mpr c)]
      · rw [decide_eq_false c, decide_eq_false (fun z => c ((neg0 a k).mp z))]
    · rw [vF'] at ha hb; exact h5 a b ha hb
    · rw [vF'] at ha hb
      rw [h164 a b ha hb]
      rcases bd2 a b with q | q
      · rw [if_pos (by omega)]
      · rw [q]; rfl
  have r37k : ∀ s, s < N → U 37 (2 + s) = S (d + 8) s := fun s hs => by rw [h37 _ (by omega), if_pos (by omega), show 2 + s - 2 = s by omega]
  have r37z : ∀ i, (i < 2 ∨ (8 ≤ i ∧ i < 62)) → U 37 i = 0 := fun i hi => by rw [h37 _ (by omega), if_neg (by omega), if_neg (by omega), if_neg (by omega)]
  have r37w : ∀ s i, s < N → i < 6 → U 37 (62 + s * 6 + i) = S (d + 7) (s * 6 + i) := fun s i hs hi => by rw [h37 _ (by omega), if_neg (by omega), if_pos (by omega), show 62 + s * 6 + i - 62 = s * 6 + i by omega]
  have r37o : ∀ f, f < 8 → U 37 (98 + f) = S (d + 9) f := fun f hf => by rw [h37 _ (by omega), if_neg (by omega), if_neg (by omega), if_pos (by omega), show 98 + f - 98 = f by omega]
  refine ⟨V, d, v, hdv, h0.2.2.1, h0.2.2.2.1, ⟨hVC, hVM, hVX⟩, ⟨?_, ?_, ⟨0, fun _ => U 37, by decide, ⟨0, by decide, h36.2.1, h36.1, fun j hj => absurd hj (by omega)⟩, ⟨h142.2.2.2.2.1, fun j hj => absurd hj (by omega)⟩, fun j hj => absurd hj (by omega)⟩, ⟨0, by decide, h36.2.2, h142.2.2.2.2.2.1, fun i hi => absurd hi (by omega)⟩, fun i hi => h82 i hi⟩, ⟨0, by decide, h0.1, h142.1, fun i hi => absurd hi (by omega)⟩, by rw [h0.2.1, h142.2.1], h142.2.2.2.2.2.2.1, Or.inl ⟨h0.2.2.2.2, h142.2.2.2.2.2.2.2⟩⟩
  · intro i hi
    show U 37 i = mr U i
    rcases hi with ⟨i1, i2, i3⟩ | ⟨s, k, hs, hk, rfl⟩
    · rw [vSe] at i2
      by_cases q0 : i = 0
      · rw [q0, mr_0, h142.2.2.1]; exact r37z 0 (by omega)
      · by_cases q1 : i = 1
        · rw [q1, mr_1, h142.2.2.2.1]; exact r37z 1 (by omega)
        · by_cases q2 : i < 8
          · obtain ⟨s, rfl⟩ : ∃ s, i = 2 + s := ⟨i - 2, by omega⟩
            obtain ⟨-, k, k1, k2, k3⟩ := dS s (by omega)
            rw [mr_k (by omega), (h158 s (by omega)).1, if_pos (by omega), r37k s (by omega), k2, k3]
          · by_cases q3 : i < 14
            · obtain ⟨s, rfl⟩ : ∃ s, i = 8 + s := ⟨i - 8, by omega⟩
              rw [mr_p (by omega), (h158 s (by omega)).2]; exact r37z _ (by omega)
            · by_cases q4 : i < 62
              · obtain ⟨j, rfl⟩ : ∃ j, i = 14 + 0 * 8 + j := ⟨i - 14, by omega⟩
                rw [mr_e (by omega), h160 _ (by omega)]; exact r37z _ (by omega)
              · obtain ⟨f, rfl⟩ : ∃ f, i = 98 + f := ⟨i - 98, by omega⟩
                rw [mr_o, h162 f (by omega), r37o f (by omega)]
                by_cases c : f < F
                · rw [if_pos c]
                  rcases dO.1 f c with ⟨q1, q2⟩ | ⟨o, -, q1, q2⟩
                  · rw [q1, q2]
                  · rw [q1, q2]
                · rw [if_neg c]; exact dO.2 f (by omega) (by omega)
    · rw [vSe] at hs
      rw [vWe] at hk
      obtain ⟨x1, x2, x3, x4, x5⟩ := eW s hs
      obtain ⟨f, f1, f2, f3⟩ := x5 k hk
      rw [mr_w (by omega), h161 _ (by omega), show 36 + (6 * s + k) = 6 * (6 + s) + k by omega, f3, r37w s k hs (by omega), f2]
  · refine ⟨⟨0, by decide, r37z 0 (by omega)⟩, fun s hs => ?_, fun s hs => ?_, fun s t hs ht => ⟨0, by decide, ?_⟩, fun s i hs hi => ?_, fun t ht => ?_⟩
    · rw [vSe] at hs
      obtain ⟨-, k, k1, k2, k3⟩ := dS s hs
      exact ⟨k, by rw [vF']; exact k1, by show U 37 (2 + s) = _; rw [r37k s hs]; exact k2⟩
    · rw [vSe] at hs
      show -9999 ≤ (U 37 (8 + s)).toInt ∧ (U 37 (8 + s)).toInt ≤ 9999
      rw [r37z _ (by omega)]; decide
    · rw [vSe] at hs; rw [vF'] at ht
      show U 37 (14 + s * 8 + t) = _
      rw [r37z _ (by omega)]; rfl
    · rw [vSe] at hs; rw [vWe] at hi; rw [vF']
      obtain ⟨x1, x2, x3, x4, x5⟩ := eW s hs
      obtain ⟨f, f1, f2, f3⟩ := x5 i hi
      exact ⟨f, f1, by show U 37 (62 + s * 6 + i) = _; rw [r37w s i hs (by omega)]; exact f2⟩
    · rw [vF'] at ht; rw [vSe]
      show U 37 (98 + t) = -1 ∨ ∃ o, o < N ∧ U 37 (98 + t) = nI o
      rw [r37o t (by omega)]
      rcases dO.1 t ht with ⟨q1, -⟩ | ⟨o, o1, q1, -⟩
      · exact Or.inl q1
      · exact Or.inr ⟨o, o1, q1⟩
