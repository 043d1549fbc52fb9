/-! the reference takes a text over; the class starts anew -/
theorem M_half {c h : Nat} {T : St} (hl : ln c = 2 * h) (h7 : h ≤ 700) : ok (fX10_takeHalf c T) (fun T' => (∀ a, a ≠ c → T' a = T a) ∧ ∀ j, j < h → T' c j = T c (h + j)) := by
  have e2 : ∀ {β : Type} (k : Int32 → Option β), dv (nI (ln c)) 2 k = k (nI h) := fun k => by
    rw [hl, show (2 : Int32) = nI 2 from rfl, dv_n (by omega) (by decide) (by decide), show 2 * h / 2 = h by omega]
  unfold fX10_takeHalf
  refine ok_for (fun n i S => LX10_takeHalf_2 n c (nI i) S) _ (fun i S => (∀ a, a ≠ c → S a = T a) ∧ ∀ j, S c j = if j < i then T c (h + j) else T c j) h ?_ ?_ FU 0 T (by omega) (by unfold FU; omega) ⟨fun _ _ => rfl, fun j => by rw [if_neg (by omega)]⟩
  · intro n S hS
    show ok (KX10_takeHalf_2 (LX10_takeHalf_2 n) c (nI h) S) _
    unfold KX10_takeHalf_2
    rw [e2, if_pos (nI_le (Nat.le_refl _) (by omega))]
    exact ok_some ⟨hS.1, fun j hj => by rw [hS.2 j, if_pos hj]⟩
  · intro n i S hi hS ih
    show ok (KX10_takeHalf_2 (LX10_takeHalf_2 n) c (nI i) S) _
    unfold KX10_takeHalf_2
    rw [e2, if_neg (nI_ge hi (by omega)), e2, nI_add, rd_g (by omega), wr_g (by omega), vl_s, nI_1]
    refine ih _ ⟨fun a ha => by rw [up_ne ha]; exact hS.1 a ha, fun j => ?_⟩
    by_cases c1 : j = i
    · rw [c1, up_at, if_pos (by omega), hS.2, if_neg (by omega)]
    · rw [up_off c1, hS.2 j]
      by_cases c2 : j < i
      · rw [if_pos c2, if_pos (by omega)]
      · rw [if_neg c2, if_neg (by omega)]
/-- all halves -/
def HV (T T1 : St) : Prop := (∀ a, (a < 145 ∨ 155 < a) → T1 a = T a) ∧ (∀ j, j < 5 → T1 145 j = T 145 (5 + j)) ∧ (∀ j, j < 8 → T1 146 j = T 146 (8 + j) ∧ T1 147 j = T 147 (8 + j) ∧ T1 153 j = T 153 (8 + j)) ∧ (∀ j, j < 48 → T1 148 j = T 148 (48 + j)) ∧ (∀ j, j < 64 → T1 149 j = T 149 (64 + j)) ∧ (∀ j, j < 36 → T1 150 j = T 150 (36 + j)) ∧ (∀ j, j < 6 → T1 151 j = T 151 (6 + j) ∧ T1 152 j = T 152 (6 + j)) ∧ ∀ j, j < 700 → T1 154 j = T 154 (700 + j) ∧ T1 155 j = T 155 (700 + j)
theorem M_over198 {F : Nat} {T0 T : St} {w : Nat → Nat → Nat} (hF : F ≤ 8) (hw : ∀ a b, w a b ≤ 20) (e0 : T 145 0 = nI F) (hi : ∀ a b, a < F → b < F → T 149 (8 * a + b) = nI (w a b)) : ok (LX10_takeOver_198 FU 0 T) (fun T' => (∀ a, a ≠ 142 → a ≠ 162 → a ≠ 164 → T' a = T a) ∧ (∀ j, j ≠ 36 → j ≠ 37 → j ≠ 57 → T' 142 j = T 142 j) ∧ T' 142 36 = 0 ∧ T' 142 37 = 0 ∧ T' 142 57 = 0 ∧ (∀ f, f < 8 → T' 162 f = if f < F then T 153 f else -1) ∧ ∀ a b, a < F → b < F → T' 164 (8 * a + b) = nI (fw w F a b)) := by
  refine ok_for (fun n i S => LX10_takeOver_198 n (nI i) S) _ (fun i S => (∀ a, a ≠ 162 → S a = T a) ∧ ∀ f, f < i → S 162 f = if f < F then T 153 f else -1) 8 ?_ ?_ FU 0 T (by omega) (by decide) ⟨fun _ _ => rfl, fun f hf => absurd hf (by omega)⟩
  · intro n S hS
    obtain ⟨T1, e1, f1, f2⟩ := M_fars (T := S) (w := w) hF hw (by rw [hS.1 145 (by decide)]; exact e0) (fun a b ha hb => by rw [hS.1 149 (by decide)]; exact hi a b ha hb)
    show ok (KX10_takeOver_198 (LX10_takeOver_198 n) (nI 8) S) _
    unfold KX10_takeOver_198
    rw [if_pos (by decide), e1, bv_s, pf_s, pf_s, pz_0]
    refine ok_some ⟨fun a h1 h2 h3 => ?_, fun j h1 h2 h3 => ?_, ?_, ?_, up_at, fun f hf => ?_, fun a b ha hb => ?_⟩
    · rw [up_ne h1, up_ne h1, up_ne h1, f2 a h3, hS.1 a h2]
    · rw [up_off h3, up_off h2, up_off h1, f2 142 (by decide), hS.1 142 (by decide)]
    · rw [up_off (by decide), up_off (by decide), up_at]
    · rw [up_off (by decide), up_at]
    · rw [up_ne (by decide), up_ne (by decide), up_ne (by decide), f2 162 (by decide)]; exact hS.2 f hf
    · rw [up_ne (by decide), up_ne (by decide), up_ne (by decide)]; exact f1 a b ha hb
  · intro n i S hi' hS ih
    have t0 : S 145 0 = nI F := by rw [hS.1 145 (by decide)]; exact e0
    have put : ∀ x : Int32, x = (if i < F then T 153 i else -1) → ok (BX10_takeOver_229 (LX10_takeOver_198 n) (nI i) (nI i) x S) (fun T' => (∀ a, a ≠ 142 → a ≠ 162 → a ≠ 164 → T' a = T a) ∧ (∀ j, j ≠ 36 → j ≠ 37 → j ≠ 57 → T' 142 j = T 142 j) ∧ T' 142 36 = 0 ∧ T' 142 37 = 0 ∧ T' 142 57 = 0 ∧ (∀ f, f < 8 → T' 162 f = if f < F then T 153 f else -1) ∧ ∀ a b, a < F → b < F → T' 164 (8 * a + b) = nI (fw w F a b)) := by
      intro x hx
      unfold BX10_takeOver_229
      rw [wr162 (by omega), vl_s, nI_1]
      refine ih _ ⟨fun a ha => by rw [up_ne ha]; exact hS.1 a ha, fun f hf => ?_⟩
      by_cases c : f = i
      · rw [c, up_at]; exact hx
      · rw [up_off c]; exact hS.2 f (by omega)
    show ok (KX10_takeOver_198 (LX10_takeOver_198 n) (nI i) S) _
    unfold KX10_takeOver_198
    rw [if_neg (show ¬ (8 : Int32) ≤ _ from nI_ge (b := 8) hi' (by decide)), rd145_0, t0]
    by_cases c : F ≤ i
    · rw [if_pos (nI_le c (by omega))]
      exact put _ (by rw [if_neg (by omega)])
    · rw [if_neg (nI_ge (by omega) (by omega)), rd153 (by omega), hS.1 153 (by decide)]
      exact put _ (by rw [if_pos (by omega)])
def OV (F N : Nat) (w : Nat → Nat → Nat) (T T' : St) : Prop := (∀ a, a ≠ 142 → (a < 158 ∨ 162 < a) → a ≠ 164 → T' a = T a) ∧ (∀ j, j ≠ 34 → j ≠ 35 → j ≠ 36 → j ≠ 37 → j ≠ 57 → T' 142 j = T 142 j) ∧ (T' 142 34 = 0 ∧ T' 142 35 = 0 ∧ T' 142 36 = 0 ∧ T' 142 37 = 0 ∧ T' 142 57 = 0) ∧ (∀ s, s < 6 → T' 158 s = (if s < N then T 152 s else 0) ∧ T' 159 s = 0) ∧ (∀ j, j < 48 → T' 160 j = 0) ∧ (∀ j, j < 36 → T' 161 j = T 150 j) ∧ (∀ f, f < 8 → T' 162 f = if f < F then T 153 f else -1) ∧ ∀ a b, a < F → b < F → T' 164 (8 * a + b) = nI (fw w F a b)
theorem M_over89 {F N : Nat} {T : St} {w : Nat → Nat → Nat} (hF : F ≤ 8) (hN : N ≤ 6) (hw : ∀ a b, w a b ≤ 20) (e0 : T 145 0 = nI F) (e2 : T 145 2 = nI N) (h34 : T 142 34 = 0) (h35 : T 142 35 = 0) (hi : ∀ a b, a < F → b < F → T 149 (8 * a + b) = nI (w a b)) : ok (LX10_takeOver_89 FU 0 T) (fun T' => OV F N w T T') := by
  refine ok_for (fun n i S => LX10_takeOver_89 n (nI i) S) _ (fun i S => (∀ a, (a < 158 ∨ 161 < a) → S a = T a) ∧ (∀ s, s < i → S 158 s = (if s < N then T 152 s else 0) ∧ S 159 s = 0) ∧ (∀ j, j < 8 * i → S 160 j = 0) ∧ ∀ j, j < 6 * i → S 161 j = T 150 j) 6 ?_ ?_ FU 0 T (by omega) (by decide) ⟨fun _ _ => rfl, fun s hs => absurd hs (by omega), fun j hj => absurd hj (by omega), fun j hj => absurd hj (by omega)⟩
  · intro n S hS
    obtain ⟨s1, s2, s3, s4⟩ := hS
    show ok (KX10_takeOver_89 (LX10_takeOver_89 n) (nI 6) S) _
    unfold KX10_takeOver_89
    rw [if_pos (by decide)]
    refine ok_mono (M_over198 (T0 := T) (T := S) (w := w) hF hw (by rw [s1 145 (by decide)]; exact e0) (fun a b ha hb => by rw [s1 149 (by decide)]; exact hi a b ha hb)) (fun T' hT' => ?_)
    obtain ⟨q1, q2, q3, q4, q5, q6, q7⟩ := hT'
    refine ⟨fun a h1 h2 h3 => by rw [q1 a h1 (by omega) h3, s1 a (by omega)], fun j h1 h2 h3 h4 h5 => by rw [q2 j h3 h4 h5, s1 142 (by decide)], ⟨by rw [q2 34 (by decide) (by decide) (by decide), s1 142 (by decide)]; exact h34, by rw [q2 35 (by decide) (by decide) (by decide), s1 142 (by decide)]; exact h35, q3, q4, q5⟩, fun s hs => ?_, fun j hj => ?_, fun j hj => ?_, fun f hf => ?_, q7⟩
    · rw [q1 158 (by decide) (by decide) (by decide), q1 159 (by decide) (by decide) (by decide)]; exact s2 s hs
    · rw [q1 160 (by decide) (by decide) (by decide)]; exact s3 j (by omega)
    · rw [q1 161 (by decide) (by decide) (by decide)]; exact s4 j (by omega)
    · rw [q6 f hf, s1 153 (by decide)]
  · intro n i S hi' hS ih
    obtain ⟨s1, s2, s3, s4⟩ := hS
    have t2 : S 145 2 = nI N := by rw [s1 145 (by decide)]; exact e2
    have put : ∀ x : Int32, x = (if i < N then T 152 i else 0) → ok (BX10_takeOver_120 (LX10_takeOver_89 n) (nI i) (nI i) x S) (fun T' => OV F N w T T') := by
      intro x hx
      unfold BX10_takeOver_120
      rw [wr158 (by omega), wr159 (by omega)]
      generalize hS1 : up (up S 158 i x) 159 i 0 = S1
      have c1 : ∀ a, a ≠ 158 → a ≠ 159 → S1 a = S a := fun a q1 q2 => by rw [← hS1, up_ne q2, up_ne q1]
      have v1 : S1 158 i = x ∧ S1 159 i = 0 ∧ (∀ s, s ≠ i → S1 158 s = S 158 s ∧ S1 159 s = S 159 s) := by
        refine ⟨by rw [← hS1, up_ne (by decide), up_at], by rw [← hS1, up_at], fun s hs => ⟨by rw [← hS1, up_ne (by decide), up_off hs], by rw [← hS1, up_off hs, up_ne (by decide)]⟩⟩
      refine ok_for (fun m j U => LX10_takeOver_130 (LX10_takeOver_89 n) m (nI i) (nI j) U) _ (fun j U => (∀ a, a ≠ 160 → U a = S1 a) ∧ ∀ q, q < 8 * i + j → U 160 q = 0) 8 ?_ ?_ FU 0 S1 (by omega) (by decide) ⟨fun _ _ => rfl, fun q hq => by rw [c1 160 (by decide) (by decide)]; exact s3 q (by omega)⟩
      · intro m U hU
        show ok (KX10_takeOver_130 (LX10_takeOver_89 n) (LX10_takeOver_130 (LX10_takeOver_89 n) m) (nI i) (nI 8) U) _
        unfold KX10_takeOver_130
        rw [if_pos (by decide)]
        refine ok_for (fun m j U => LX10_takeOver_156 (LX10_takeOver_89 n) m (nI i) (nI j) U) _ (fun j W => (∀ a, a ≠ 161 → W a = U a) ∧ ∀ q, q < 6 * i + j → W 161 q = T 150 q) 6 ?_ ?_ FU 0 U (by omega) (by decide) ⟨fun _ _ => rfl, fun q hq => by rw [hU.1 161 (by decide), c1 161 (by decide) (by decide)]; exact s4 q (by omega)⟩
        · intro m2 W hW
          show ok (KX10_takeOver_156 (LX10_takeOver_89 n) (LX10_takeOver_156 (LX10_takeOver_89 n) m2) (nI i) (nI 6) W) _
          unfold KX10_takeOver_156
          rw [if_pos (by decide), vl_s, nI_1]
          refine ih W ⟨fun a ha => by rw [hW.1 a (by omega), hU.1 a (by omega), c1 a (by omega) (by omega), s1 a ha], fun s hs => ?_, fun j hj => by rw [hW.1 160 (by decide)]; exact hU.2 j (by omega), fun j hj => hW.2 j (by omega)⟩
          rw [hW.1 158 (by decide), hW.1 159 (by decide), hU.1 158 (by decide), hU.1 159 (by decide)]
          by_cases c : s = i
          · rw [c, v1.1, v1.2.1]; exact ⟨hx, rfl⟩
          · rw [(v1.2.2 s c).1, (v1.2.2 s c).2]; exact s2 s (by omega)
        · intro m2 j W hj hW ih2
          show ok (KX10_takeOver_156 (LX10_takeOver_89 n) (LX10_takeOver_156 (LX10_takeOver_89 n) m2) (nI i) (nI j) W) _
          unfold KX10_takeOver_156
          rw [if_neg (show ¬ (6 : Int32) ≤ _ from nI_ge (b := 6) hj (by decide)), lm6, nI_add, rd150 (by omega), wr161 (by omega), vl_s, nI_1]
          refine ih2 _ ⟨fun a ha => by rw [up_ne ha]; exact hW.1 a ha, fun q hq => ?_⟩
          by_cases c : q = 6 * i + j
          · rw [c, up_at, hW.1 150 (by decide), hU.1 150 (by decide), c1 150 (by decide) (by decide), s1 150 (by decide)]
          · rw [up_off c]; exact hW.2 q (by omega)
      · intro m j U hj hU ih2
        show ok (KX10_takeOver_130 (LX10_takeOver_89 n) (LX10_takeOver_130 (LX10_takeOver_89 n) m) (nI i) (nI j) U) _
        unfold KX10_takeOver_130
        rw [if_neg (show ¬ (8 : Int32) ≤ _ from nI_ge (b := 8) hj (by decide)), lm8, nI_add, wr160 (by omega), vl_s, nI_1]
        refine ih2 _ ⟨fun a ha => by rw [up_ne ha]; exact hU.1 a ha, fun q hq => ?_⟩
        by_cases c : q = 8 * i + j
        · rw [c, up_at]
        · rw [up_off c]; exact hU.2 q (by omega)
    show ok (KX10_takeOver_89 (LX10_takeOver_89 n) (nI i) S) _
    unfold KX10_takeOver_89
    rw [if_neg (show ¬ (6 : Int32) ≤ _ from nI_ge (b := 6) hi' (by decide)), rd145_2, t2]
    by_cases c : N ≤ i
    · rw [if_pos (nI_le c (by omega))]
      exact put _ (by rw [if_neg (by omega)])
    · rw [if_neg (nI_ge (by omega) (by omega)), rd152 (by omega), s1 152 (by decide)]
      exact put _ (by rw [if_pos (by omega)])
theorem M_over {F N : Nat} {T : St} {w : Nat → Nat → Nat} (hF : F ≤ 8) (hN : N ≤ 6) (hw : ∀ a b, w a b ≤ 20) (e0 : T 145 5 = nI F) (e2 : T 145 7 = nI N) (hi : ∀ a b, a < 8 → b < 8 → T 149 (64 + 8 * a + b) = nI (w a b)) : ok (fX10_takeOver T) (fun T' => ∃ T1, HV T T1 ∧ OV F N w (up (up T1 142 34 0) 142 35 0) T') := by
  unfold fX10_takeOver
  obtain ⟨A1, a1, b1, c1⟩ := M_half (c := 145) (h := 5) (T := T) rfl (by decide)
  obtain ⟨A2, a2, b2, c2⟩ := M_half (c := 146) (h := 8) (T := A1) rfl (by decide)
  obtain ⟨A3, a3, b3, c3⟩ := M_half (c := 147) (h := 8) (T := A2) rfl (by decide)
  obtain ⟨A4, a4, b4, c4⟩ := M_half (c := 148) (h := 48) (T := A3) rfl (by decide)
  obtain ⟨A5, a5, b5, c5⟩ := M_half (c := 149) (h := 64) (T := A4) rfl (by decide)
  obtain ⟨A6, a6, b6, c6⟩ := M_half (c := 150) (h := 36) (T := A5) rfl (by decide)
  obtain ⟨A7, a7, b7, c7⟩ := M_half (c := 151) (h := 6) (T := A6) rfl (by decide)
  obtain ⟨A8, a8, b8, c8⟩ := M_half (c := 152) (h := 6) (T := A7) rfl (by decide)
  obtain ⟨A9, a9, b9, c9⟩ := M_half (c := 153) (h := 8) (T := A8) rfl (by decide)
  obtain ⟨A10, a10, b10, c10⟩ := M_half (c := 154) (h := 700) (T := A9) rfl (by decide)
  obtain ⟨A11, a11, b11, c11⟩ := M_half (c := 155) (h := 700) (T := A10) rfl (by decide)
  rw [a1, bv_s, a2, bv_s, a3, bv_s, a4, bv_s, a5, bv_s, a6, bv_s, a7, bv_s, a8, bv_s, a9, bv_s, a10, bv_s, a11, bv_s, pf_s, pf_s]
  have hH : HV T A11 := by
    refine ⟨fun a ha => ?_, fun j hj => ?_, fun j hj => ⟨?_, ?_, ?_⟩, fun j hj => ?_, fun j hj => ?_, fun j hj => ?_, fun j hj => ⟨?_, ?_⟩, fun j hj => ⟨?_, ?_⟩⟩
    · rw [b11 a (by omega), b10 a (by omega), b9 a (by omega), b8 a (by omega), b7 a (by omega), b6 a (by omega), b5 a (by omega), b4 a (by omega), b3 a (by omega), b2 a (by omega), b1 a (by omega)]
    · rw [b11 145 (by decide), b10 145 (by decide), b9 145 (by decide), b8 145 (by decide), b7 145 (by decide), b6 145 (by decide), b5 145 (by decide), b4 145 (by decide), b3 145 (by decide), b2 145 (by decide)]; exact c1 j hj
    · rw [b11 146 (by decide), b10 146 (by decide), b9 146 (by decide), b8 146 (by decide), b7 146 (by decide), b6 146 (by decide), b5 146 (by decide), b4 146 (by decide), b3 146 (by decide), c2 j hj, b1 146 (by decide)]
    · rw [b11 147 (by decide), b10 147 (by decide), b9 147 (by decide), b8 147 (by decide), b7 147 (by decide), b6 147 (by decide), b5 147 (by decide), b4 147 (by decide), c3 j hj, b2 147 (by decide), b1 147 (by decide)]
    · rw [b11 153 (by decide), b10 153 (by decide), c9 j hj, b8 153 (by decide), b7 153 (by decide), b6 153 (by decide), b5 153 (by decide), b4 153 (by decide), b3 153 (by decide), b2 153 (by decide), b1 153 (by decide)]
    · rw [b11 148 (by decide), b10 148 (by decide), b9 148 (by decide), b8 148 (by decide), b7 148 (by decide), b6 148 (by decide), b5 148 (by decide), c4 j hj, b3 148 (by decide), b2 148 (by decide), b1 148 (by decide)]
    · rw [b11 149 (by decide), b10 149 (by decide), b9 149 (by decide), b8 149 (by decide), b7 149 (by decide), b6 149 (by decide), c5 j hj, b4 149 (by decide), b3 149 (by decide), b2 149 (by decide), b1 149 (by decide)]
    · rw [b11 150 (by decide), b10 150 (by decide), b9 150 (by decide), b8 150 (by decide), b7 150 (by decide), c6 j hj, b5 150 (by decide), b4 150 (by decide), b3 150 (by decide), b2 150 (by decide), b1 150 (by decide)]
    · rw [b11 151 (by decide), b10 151 (by decide), b9 151 (by decide), b8 151 (by decide), c7 j hj, b6 151 (by decide), b5 151 (by decide), b4 151 (by decide), b3 151 (by decide), b2 151 (by decide), b1 151 (by decide)]
    · rw [b11 152 (by decide), b10 152 (by decide), b9 152 (by decide), c8 j hj, b7 152 (by decide), b6 152 (by decide), b5 152 (by decide), b4 152 (by decide), b3 152 (by decide), b2 152 (by decide), b1 152 (by decide)]
    · rw [b11 154 (by decide), c10 j hj, b9 154 (by decide), b8 154 (by decide), b7 154 (by decide), b6 154 (by decide), b5 154 (by decide), b4 154 (by decide), b3 154 (by decide), b2 154 (by decide), b1 154 (by decide)]
    · rw [c11 j hj, b10 155 (by decide), b9 155 (by decide), b8 155 (by decide), b7 155 (by decide), b6 155 (by decide), b5 155 (by decide), b4 155 (by decide), b3 155 (by decide), b2 155 (by decide), b1 155 (by decide)]
  have nn : ∀ a, a ≠ 142 → up (up A11 142 34 0) 142 35 0 a = A11 a := fun a ha => by rw [up_ne ha, up_ne ha]
  refine ok_mono (M_over89 (F := F) (N := N) (w := w) hF hN hw ?_ ?_ ?_ up_at ?_) (fun T' hT' => ⟨A11, hH, hT'⟩)
  · rw [nn 145 (by decide), hH.2.1 0 (by decide)]; exact e0
  · rw [nn 145 (by decide), hH.2.1 2 (by decide)]; exact e2
  · rw [up_off (by decide), up_at]
  · intro a b ha hb
    rw [nn 149 (by decide), hH.2.2.2.2.1 _ (by omega), show 64 + (8 * a + b) = 64 + 8 * a + b by omega]
    exact hi a b (by omega) (by omega)
