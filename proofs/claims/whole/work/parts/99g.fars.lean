/-! the shortest ways -/
def fw (w : Nat → Nat → Nat) : Nat → Nat → Nat → Nat
  | 0, a, b => if a = b then 0 else if w a b = 0 then 100000 else w a b
  | k + 1, a, b => if fw w k a k + fw w k k b < fw w k a b then fw w k a k + fw w k k b else fw w k a b
theorem fw_s {w : Nat → Nat → Nat} {k a b : Nat} : fw w (k + 1) a b = if fw w k a k + fw w k k b < fw w k a b then fw w k a k + fw w k k b else fw w k a b := rfl
theorem fw_d {w : Nat → Nat → Nat} : ∀ k a, fw w k a a = 0 := by
  intro k
  induction k with
  | zero => intro a; show (if a = a then 0 else _) = 0; rw [if_pos rfl]
  | succ k ih => intro a; rw [fw_s, ih a, if_neg (by omega)]
theorem fw_col {w : Nat → Nat → Nat} {k a : Nat} : fw w (k + 1) a k = fw w k a k := by rw [fw_s, fw_d, if_neg (by omega)]
theorem fw_row {w : Nat → Nat → Nat} {k b : Nat} : fw w (k + 1) k b = fw w k k b := by rw [fw_s, fw_d, if_neg (by omega)]
theorem fw_le {w : Nat → Nat → Nat} {k a b : Nat} : fw w (k + 1) a b ≤ fw w k a b ∧ fw w (k + 1) a b ≤ fw w k a k + fw w k k b ∧ (fw w (k + 1) a b = fw w k a b ∨ fw w (k + 1) a b = fw w k a k + fw w k k b) := by
  rw [fw_s]
  split
  · omega
  · omega
theorem fw_tri {w : Nat → Nat → Nat} : ∀ k a b j, j < k → fw w k a b ≤ fw w k a j + fw w k j b := by
  intro k
  induction k with
  | zero => intro a b j h; omega
  | succ k ih =>
    intro a b j hj
    have e := fw_le (w := w) (k := k) (a := a) (b := b)
    by_cases c : j = k
    · subst c; rw [fw_col, fw_row]; exact e.2.1
    · have h1 := ih a b j (by omega)
      have h2 := ih k b j (by omega)
      have h3 := ih a k j (by omega)
      have x := (fw_le (w := w) (k := k) (a := a) (b := j)).2.2
      have y := (fw_le (w := w) (k := k) (a := j) (b := b)).2.2
      omega
theorem fw_bd {w : Nat → Nat → Nat} (hw : ∀ a b, w a b ≤ 20) : ∀ k, k ≤ 8 → ∀ a b, fw w k a b ≤ 20 * 2 ^ k ∨ fw w k a b = 100000 := by
  intro k
  induction k with
  | zero =>
    intro _ a b
    show (if a = b then 0 else if w a b = 0 then 100000 else w a b) ≤ _ ∨ _
    have e : fw w 0 a b = if a = b then 0 else if w a b = 0 then 100000 else w a b := rfl
    rw [e]
    have := hw a b
    split
    · omega
    · split
      · exact Or.inr rfl
      · omega
  | succ k ih =>
    intro hk a b
    have h1 := ih (by omega) a b
    have h2 := ih (by omega) a k
    have h3 := ih (by omega) k b
    have hp : 2 ^ k ≤ 2 ^ 7 := Nat.pow_le_pow_right (by decide) (by omega)
    rw [Nat.pow_succ]
    have e := fw_le (w := w) (k := k) (a := a) (b := b)
    have e2 := fw_s (w := w) (k := k) (a := a) (b := b)
    split at e2
    · omega
    · omega
theorem fw_bd2 {w : Nat → Nat → Nat} (hw : ∀ a b, w a b ≤ 20) {k : Nat} (hk : k ≤ 8) (a b : Nat) : fw w k a b ≤ 5120 ∨ fw w k a b = 100000 := by
  have h := fw_bd hw k hk a b
  have hp : 2 ^ k ≤ 2 ^ 8 := Nat.pow_le_pow_right (by decide) hk
  omega
def cS (x : Nat) : Nat := if x < 10000 then x else 1000000
theorem cS_step {w : Nat → Nat → Nat} (hw : ∀ a b, w a b ≤ 20) {k a b : Nat} (hk : k < 8) : cS (fw w (k + 1) a b) = if cS (fw w k a b) ≤ cS (fw w k a k) + cS (fw w k k b) then cS (fw w k a b) else cS (fw w k a k) + cS (fw w k k b) := by
  have h1 := fw_bd hw k (by omega) a b
  have h2 := fw_bd hw k (by omega) a k
  have h3 := fw_bd hw k (by omega) k b
  have hp : 2 ^ k ≤ 2 ^ 7 := Nat.pow_le_pow_right (by decide) (by omega)
  rw [fw_s]
  unfold cS
  repeat' split
  all_goals omega
theorem ix88 {d : Nat} (hd : d = 2 ∨ d = 17) (S : St) (a b : Nat) (ha : a < 8) (hb : b < 8) {β : Type} (k : Int32 → Option β) : rd S (sr d 7) (nI a * 8 + nI b) k = k (S (d + 5) (a * 8 + b)) := by rw [srv7 hd, ix_8, rdv5 hd (by omega)]
theorem C_meas {d F : Nat} {S : St} {w : Nat → Nat → Nat} (hd : d = 2 ∨ d = 17) (hF : F ≤ 8) (hw : ∀ a b, w a b ≤ 20) (e0 : S d 0 = nI F) (hi : ∀ a b, a < F → b < F → S (d + 5) (a * 8 + b) = nI (if w a b = 0 then 1000000 else w a b)) : ok (fX8_measure d S) (fun S' => (∀ a b, a < F → b < F → S' (d + 5) (a * 8 + b) = nI (cS (fw w F a b))) ∧ ∀ a, a ≠ d + 5 → S' a = S a) := by
  unfold fX8_measure
  refine ok_for (fun n i T => LX8_measure_2 n d (nI i) T) _ (fun i T => (∀ a, a ≠ d + 5 → T a = S a) ∧ ∀ a b, a < F → b < F → T (d + 5) (a * 8 + b) = nI (if a = b ∧ a < i then 0 else if w a b = 0 then 1000000 else w a b)) F ?_ ?_ FU 0 S (by omega) (by unfold FU; omega) ⟨fun _ _ => rfl, fun a b ha hb => by rw [if_neg (by omega)]; exact hi a b ha hb⟩
  · intro n T hT
    have t0 : T d 0 = nI F := by rw [hT.1 d (by omega)]; exact e0
    show ok (KX8_measure_2 (LX8_measure_2 n) d (nI F) T) _
    unfold KX8_measure_2
    rw [t0, if_pos (nI_le (Nat.le_refl _) (by omega))]
    have start : ∀ a b, a < F → b < F → T (d + 5) (a * 8 + b) = nI (cS (fw w 0 a b)) := by
      intro a b ha hb
      rw [hT.2 a b ha hb]
      have e : fw w 0 a b = if a = b then 0 else if w a b = 0 then 100000 else w a b := rfl
      rw [e]
      have := hw a b
      unfold cS
      by_cases c : a = b
      · rw [if_pos ⟨c, ha⟩, if_pos c]; rfl
      · rw [if_neg (by omega), if_neg c]
        by_cases c2 : w a b = 0
        · rw [if_pos c2, if_pos c2]; rfl
        · rw [if_neg c2, if_neg c2, if_pos (by omega)]
    refine ok_for (fun n k T => LX8_measure_30 n d (nI k) T) _ (fun k T => (∀ a, a ≠ d + 5 → T a = S a) ∧ ∀ a b, a < F → b < F → T (d + 5) (a * 8 + b) = nI (cS (fw w k a b))) F ?_ ?_ FU 0 T (by omega) (by unfold FU; omega) ⟨hT.1, start⟩
    · intro n T1 h1
      have t1 : T1 d 0 = nI F := by rw [h1.1 d (by omega)]; exact e0
      show ok (KX8_measure_30 (LX8_measure_30 n) d (nI F) T1) _
      unfold KX8_measure_30
      rw [t1, if_pos (nI_le (Nat.le_refl _) (by omega))]
      exact ok_some ⟨h1.2, h1.1⟩
    · intro n k T1 hk h1 ih
      have t1 : T1 d 0 = nI F := by rw [h1.1 d (by omega)]; exact e0
      show ok (KX8_measure_30 (LX8_measure_30 n) d (nI k) T1) _
      unfold KX8_measure_30
      rw [t1, if_neg (nI_ge hk (by omega))]
      refine ok_for (fun m f T => LX8_measure_40 (LX8_measure_30 n) m d (nI k) (nI f) T) _ (fun f T => (∀ a, a ≠ d + 5 → T a = S a) ∧ ∀ a b, a < F → b < F → T (d + 5) (a * 8 + b) = nI (cS (if a < f then fw w (k + 1) a b else fw w k a b))) F ?_ ?_ FU 0 T1 (by omega) (by unfold FU; omega) ⟨h1.1, fun a b ha hb => by rw [if_neg (by omega)]; exact h1.2 a b ha hb⟩
      · intro m T2 h2
        have t2 : T2 d 0 = nI F := by rw [h2.1 d (by omega)]; exact e0
        show ok (KX8_measure_40 (LX8_measure_30 n) (LX8_measure_40 (LX8_measure_30 n) m) d (nI k) (nI F) T2) _
        unfold KX8_measure_40
        rw [t2, if_pos (nI_le (Nat.le_refl _) (by omega)), vl_s, nI_1]
        exact ih T2 ⟨h2.1, fun a b ha hb => by rw [h2.2 a b ha hb, if_pos ha]⟩
      · intro m f T2 hf h2 ih2
        have t2 : T2 d 0 = nI F := by rw [h2.1 d (by omega)]; exact e0
        show ok (KX8_measure_40 (LX8_measure_30 n) (LX8_measure_40 (LX8_measure_30 n) m) d (nI k) (nI f) T2) _
        unfold KX8_measure_40
        rw [t2, if_neg (nI_ge hf (by omega))]
        refine ok_for (fun q g T => LX8_measure_50 (LX8_measure_30 n) (LX8_measure_40 (LX8_measure_30 n) m) q d (nI k) (nI f) (nI g) T) _ (fun g T => (∀ a, a ≠ d + 5 → T a = S a) ∧ ∀ a b, a < F → b < F → T (d + 5) (a * 8 + b) = nI (cS (if a < f ∨ (a = f ∧ b < g) then fw w (k + 1) a b else fw w k a b))) F ?_ ?_ FU 0 T2 (by omega) (by unfold FU; omega) ⟨h2.1, fun a b ha hb => by
          rw [h2.2 a b ha hb]
          by_cases c : a < f
          · rw [if_pos c, if_pos (Or.inl c)]
          · rw [if_neg c, if_neg (by omega)]⟩
        · intro q T3 h3
          have t3 : T3 d 0 = nI F := by rw [h3.1 d (by omega)]; exact e0
          show ok (KX8_measure_50 (LX8_measure_30 n) (LX8_measure_40 (LX8_measure_30 n) m) (LX8_measure_50 (LX8_measure_30 n) (LX8_measure_40 (LX8_measure_30 n) m) q) d (nI k) (nI f) (nI F) T3) _
          unfold KX8_measure_50
          rw [t3, if_pos (nI_le (Nat.le_refl _) (by omega)), vl_s, nI_1]
          refine ih2 T3 ⟨h3.1, fun a b ha hb => ?_⟩
          rw [h3.2 a b ha hb]
          by_cases c : a < f + 1
          · rw [if_pos (by omega), if_pos c]
          · rw [if_neg (by omega), if_neg c]
        · intro q g T3 hg h3 ih3
          have t3 : T3 d 0 = nI F := by rw [h3.1 d (by omega)]; exact e0
          have b1 := fw_bd2 hw (show k ≤ 8 by omega) f k
          have b2 := fw_bd2 hw (show k ≤ 8 by omega) k g
          have b3 := fw_bd2 hw (show k ≤ 8 by omega) f g
          have cb : ∀ x, (x ≤ 5120 ∨ x = 100000) → cS x ≤ 1000000 := fun x hx => by unfold cS; split <;> omega
          have c1 := cb _ b1
          have c2 := cb _ b2
          have c3 := cb _ b3
          have r1 : T3 (d + 5) (f * 8 + k) = nI (cS (fw w k f k)) := by
            rw [h3.2 f k hf hk]
            by_cases c : f < f ∨ (f = f ∧ k < g)
            · rw [if_pos c, fw_col]
            · rw [if_neg c]
          have r2 : T3 (d + 5) (k * 8 + g) = nI (cS (fw w k k g)) := by
            rw [h3.2 k g hk hg]
            by_cases c : k < f ∨ (k = f ∧ g < g)
            · rw [if_pos c, fw_row]
            · rw [if_neg c]
          have r3 : T3 (d + 5) (f * 8 + g) = nI (cS (fw w k f g)) := by rw [h3.2 f g hf hg, if_neg (by omega)]
          show ok (KX8_measure_50 (LX8_measure_30 n) (LX8_measure_40 (LX8_measure_30 n) m) (LX8_measure_50 (LX8_measure_30 n) (LX8_measure_40 (LX8_measure_30 n) m) q) d (nI k) (nI f) (nI g) T3) _
          unfold KX8_measure_50 BX8_measure_112
          rw [t3, if_neg (nI_ge hg (by omega)), ix88 hd _ f k (by omega) (by omega), ix88 hd _ k g (by omega) (by omega), vl_s, ix88 hd _ f g (by omega) (by omega), r1, r2, r3, nI_add]
          have st := cS_step (a := f) (b := g) hw (show k < 8 by omega)
          by_cases c : cS (fw w k f g) ≤ cS (fw w k f k) + cS (fw w k k g)
          · rw [if_pos (nI_le c (by omega)), vl_s, nI_1]
            rw [if_pos c] at st
            refine ih3 T3 ⟨h3.1, fun a b ha hb => ?_⟩
            rw [h3.2 a b ha hb]
            by_cases e : a = f ∧ b = g
            · obtain ⟨rfl, rfl⟩ := e
              rw [if_neg (by omega), if_pos (by omega), st]
            · by_cases e2 : a < f ∨ (a = f ∧ b < g)
              · rw [if_pos e2, if_pos (by omega)]
              · rw [if_neg e2, if_neg (by omega)]
          · rw [if_neg (nI_ge (by omega) (by omega)), srv7 hd, ix_8, wrv5 hd (by omega), vl_s, nI_1]
            rw [if_neg c] at st
            refine ih3 _ ⟨fun a ha => by rw [up_ne ha]; exact h3.1 a ha, fun a b ha hb => ?_⟩
            by_cases e : a = f ∧ b = g
            · obtain ⟨rfl, rfl⟩ := e
              rw [up_at, if_pos (by omega), st]
            · rw [up_off (by omega), h3.2 a b ha hb]
              by_cases e2 : a < f ∨ (a = f ∧ b < g)
              · rw [if_pos e2, if_pos (by omega)]
              · rw [if_neg e2, if_neg (by omega)]
  · intro n i T hi' hT ih
    have t0 : T d 0 = nI F := by rw [hT.1 d (by omega)]; exact e0
    show ok (KX8_measure_2 (LX8_measure_2 n) d (nI i) T) _
    unfold KX8_measure_2
    rw [t0, if_neg (nI_ge hi' (by omega)), srv7 hd, ix_8, wrv5 hd (by omega), vl_s, nI_1]
    refine ih _ ⟨fun a ha => by rw [up_ne ha]; exact hT.1 a ha, fun a b ha hb => ?_⟩
    by_cases e : a = i ∧ b = i
    · obtain ⟨rfl, rfl⟩ := e
      rw [up_at, if_pos ⟨rfl, by omega⟩]; rfl
    · rw [up_off (by omega), hT.2 a b ha hb]
      by_cases e2 : a = b ∧ a < i
      · rw [if_pos e2, if_pos (by omega)]
      · rw [if_neg e2, if_neg (show ¬ (a = b ∧ a < i + 1) by omega)]
theorem M_fars {F : Nat} {T : St} {w : Nat → Nat → Nat} (hF : F ≤ 8) (hw : ∀ a b, w a b ≤ 20) (e0 : T 145 0 = nI F) (hi : ∀ a b, a < F → b < F → T 149 (8 * a + b) = nI (w a b)) : ok (fX10_tellFars T) (fun T' => (∀ a b, a < F → b < F → T' 164 (8 * a + b) = nI (fw w F a b)) ∧ ∀ a, a ≠ 164 → T' a = T a) := by
  unfold fX10_tellFars
  refine ok_for (fun n i S => LX10_tellFars_2 n (nI i) S) _ (fun i S => (∀ a, a ≠ 164 → S a = T a) ∧ ∀ a b, a < i → b < F → S 164 (8 * a + b) = nI (fw w 0 a b)) F ?_ ?_ FU 0 T (by omega) (by unfold FU; omega) ⟨fun _ _ => rfl, fun a b ha => absurd ha (by omega)⟩
  · intro n S hS
    have t0 : S 145 0 = nI F := by rw [hS.1 145 (by decide)]; exact e0
    show ok (KX10_tellFars_2 (LX10_tellFars_2 n) (nI F) S) _
    unfold KX10_tellFars_2
    rw [rd145_0, t0, if_pos (nI_le (Nat.le_refl _) (by omega))]
    refine ok_for (fun n k T => LX10_tellFars_88 n (nI k) T) _ (fun k S => (∀ a, a ≠ 164 → S a = T a) ∧ ∀ a b, a < F → b < F → S 164 (8 * a + b) = nI (fw w k a b)) F ?_ ?_ FU 0 S (by omega) (by unfold FU; omega) ⟨hS.1, hS.2⟩
    · intro n T1 h1
      have t1 : T1 145 0 = nI F := by rw [h1.1 145 (by decide)]; exact e0
      show ok (KX10_tellFars_88 (LX10_tellFars_88 n) (nI F) T1) _
      unfold KX10_tellFars_88
      rw [rd145_0, t1, if_pos (nI_le (Nat.le_refl _) (by omega))]
      exact ok_some ⟨h1.2, h1.1⟩
    · intro n k T1 hk h1 ih
      have t1 : T1 145 0 = nI F := by rw [h1.1 145 (by decide)]; exact e0
      show ok (KX10_tellFars_88 (LX10_tellFars_88 n) (nI k) T1) _
      unfold KX10_tellFars_88
      rw [rd145_0, t1, if_neg (nI_ge hk (by omega))]
      refine ok_for (fun m f T => LX10_tellFars_100 (LX10_tellFars_88 n) m (nI k) (nI f) T) _ (fun f S => (∀ a, a ≠ 164 → S a = T a) ∧ ∀ a b, a < F → b < F → S 164 (8 * a + b) = nI (if a < f then fw w (k + 1) a b else fw w k a b)) F ?_ ?_ FU 0 T1 (by omega) (by unfold FU; omega) ⟨h1.1, fun a b ha hb => by rw [if_neg (by omega)]; exact h1.2 a b ha hb⟩
      · intro m T2 h2
        have t2 : T2 145 0 = nI F := by rw [h2.1 145 (by decide)]; exact e0
        show ok (KX10_tellFars_100 (LX10_tellFars_88 n) (LX10_tellFars_100 (LX10_tellFars_88 n) m) (nI k) (nI F) T2) _
        unfold KX10_tellFars_100
        rw [rd145_0, t2, if_pos (nI_le (Nat.le_refl _) (by omega)), vl_s, nI_1]
        exact ih T2 ⟨h2.1, fun a b ha hb => by rw [h2.2 a b ha hb, if_pos ha]⟩
      · intro m f T2 hf h2 ih2
        have t2 : T2 145 0 = nI F := by rw [h2.1 145 (by decide)]; exact e0
        show ok (KX10_tellFars_100 (LX10_tellFars_88 n) (LX10_tellFars_100 (LX10_tellFars_88 n) m) (nI k) (nI f) T2) _
        unfold KX10_tellFars_100
        rw [rd145_0, t2, if_neg (nI_ge hf (by omega))]
        refine ok_for (fun q g T => LX10_tellFars_112 (LX10_tellFars_88 n) (LX10_tellFars_100 (LX10_tellFars_88 n) m) q (nI k) (nI f) (nI g) T) _ (fun g S => (∀ a, a ≠ 164 → S a = T a) ∧ ∀ a b, a < F → b < F → S 164 (8 * a + b) = nI (if a < f ∨ (a = f ∧ b < g) then fw w (k + 1) a b else fw w k a b)) F ?_ ?_ FU 0 T2 (by omega) (by unfold FU; omega) ⟨h2.1, fun a b ha hb => by
          rw [h2.2 a b ha hb]
          by_cases c : a < f
          · rw [if_pos c, if_pos (Or.inl c)]
          · rw [if_neg c, if_neg (by omega)]⟩
        · intro q T3 h3
          have t3 : T3 145 0 = nI F := by rw [h3.1 145 (by decide)]; exact e0
          show ok (KX10_tellFars_112 (LX10_tellFars_88 n) (LX10_tellFars_100 (LX10_tellFars_88 n) m) (LX10_tellFars_112 (LX10_tellFars_88 n) (LX10_tellFars_100 (LX10_tellFars_88 n) m) q) (nI k) (nI f) (nI F) T3) _
          unfold KX10_tellFars_112
          rw [rd145_0, t3, if_pos (nI_le (Nat.le_refl _) (by omega)), vl_s, nI_1]
          refine ih2 T3 ⟨h3.1, fun a b ha hb => ?_⟩
          rw [h3.2 a b ha hb]
          by_cases c : a < f + 1
          · rw [if_pos (by omega), if_pos c]
          · rw [if_neg (by omega), if_neg c]
        · intro q g T3 hg h3 ih3
          have t3 : T3 145 0 = nI F := by rw [h3.1 145 (by decide)]; exact e0
          have b1 := fw_bd2 hw (show k ≤ 8 by omega) f k
          have b2 := fw_bd2 hw (show k ≤ 8 by omega) k g
          have b3 := fw_bd2 hw (show k ≤ 8 by omega) f g
          have r1 : T3 164 (8 * f + k) = nI (fw w k f k) := by
            rw [h3.2 f k hf hk]
            by_cases c : f < f ∨ (f = f ∧ k < g)
            · rw [if_pos c, fw_col]
            · rw [if_neg c]
          have r2 : T3 164 (8 * k + g) = nI (fw w k k g) := by
            rw [h3.2 k g hk hg]
            by_cases c : k < f ∨ (k = f ∧ g < g)
            · rw [if_pos c, fw_row]
            · rw [if_neg c]
          have r3 : T3 164 (8 * f + g) = nI (fw w k f g) := by rw [h3.2 f g hf hg, if_neg (by omega)]
          have i8 : ∀ x y : Nat, 8 * nI x + nI y = nI (8 * x + y) := fun x y => by rw [lm8, nI_add]
          show ok (KX10_tellFars_112 (LX10_tellFars_88 n) (LX10_tellFars_100 (LX10_tellFars_88 n) m) (LX10_tellFars_112 (LX10_tellFars_88 n) (LX10_tellFars_100 (LX10_tellFars_88 n) m) q) (nI k) (nI f) (nI g) T3) _
          unfold KX10_tellFars_112
          have ev : (if nI (fw w k f k) + nI (fw w k k g) < nI (fw w k f g) then nI (fw w k f k) + nI (fw w k k g) else nI (fw w k f g)) = nI (fw w (k + 1) f g) := by
            rw [nI_add, fw_s]
            by_cases c : fw w k f k + fw w k k g < fw w k f g
            · rw [if_pos (nI_lt c (by omega)), if_pos c]
            · rw [if_neg (nI_nlt (by omega) (by omega)), if_neg c]
          rw [rd145_0, t3, if_neg (nI_ge hg (by omega)), i8, rd164 (by omega), i8, rd164 (by omega), i8, rd164 (by omega), vl_s, r1, r2, r3, ev, wr164 (by omega), vl_s, nI_1]
          refine ih3 _ ⟨fun a ha => by rw [up_ne ha]; exact h3.1 a ha, fun a b ha hb => ?_⟩
          by_cases e : a = f ∧ b = g
          · obtain ⟨rfl, rfl⟩ := e
            rw [up_at, if_pos (by omega)]
          · rw [up_off (by omega), h3.2 a b ha hb]
            by_cases e2 : a < f ∨ (a = f ∧ b < g)
            · rw [if_pos e2, if_pos (by omega)]
            · rw [if_neg e2, if_neg (by omega)]
  · intro n i S hi' hS ih
    have t0 : S 145 0 = nI F := by rw [hS.1 145 (by decide)]; exact e0
    show ok (KX10_tellFars_2 (LX10_tellFars_2 n) (nI i) S) _
    unfold KX10_tellFars_2
    rw [rd145_0, t0, if_neg (nI_ge hi' (by omega))]
    refine ok_for (fun m b T => LX10_tellFars_14 (LX10_tellFars_2 n) m (nI i) (nI b) T) _ (fun b S => (∀ a, a ≠ 164 → S a = T a) ∧ (∀ a c, a < i → c < F → S 164 (8 * a + c) = nI (fw w 0 a c)) ∧ ∀ c, c < b → S 164 (8 * i + c) = nI (fw w 0 i c)) F ?_ ?_ FU 0 S (by omega) (by unfold FU; omega) ⟨hS.1, hS.2, fun c hc => absurd hc (by omega)⟩
    · intro m S1 h1
      have t1 : S1 145 0 = nI F := by rw [h1.1 145 (by decide)]; exact e0
      show ok (KX10_tellFars_14 (LX10_tellFars_2 n) (LX10_tellFars_14 (LX10_tellFars_2 n) m) (nI i) (nI F) S1) _
      unfold KX10_tellFars_14
      rw [rd145_0, t1, if_pos (nI_le (Nat.le_refl _) (by omega)), vl_s, nI_1]
      refine ih S1 ⟨h1.1, fun a b ha hb => ?_⟩
      by_cases c : a = i
      · subst c; exact h1.2.2 b hb
      · exact h1.2.1 a b (by omega) hb
    · intro m b S1 hb h1 ih1
      have t1 : S1 145 0 = nI F := by rw [h1.1 145 (by decide)]; exact e0
      have i8 : ∀ x y : Nat, 8 * nI x + nI y = nI (8 * x + y) := fun x y => by rw [lm8, nI_add]
      have put : ∀ x : Int32, x = nI (fw w 0 i b) → ok (BX10_tellFars_73 (LX10_tellFars_2 n) (LX10_tellFars_14 (LX10_tellFars_2 n) m) (nI i) (nI b) (nI (8 * i + b)) x S1) (fun T' => (∀ a b, a < F → b < F → T' 164 (8 * a + b) = nI (fw w F a b)) ∧ ∀ a, a ≠ 164 → T' a = T a) := by
        intro x hx
        unfold BX10_tellFars_73
        rw [wr164 (by omega), vl_s, nI_1]
        refine ih1 _ ⟨fun a ha => by rw [up_ne ha]; exact h1.1 a ha, fun a c ha hc => by rw [up_off (by omega)]; exact h1.2.1 a c ha hc, fun c hc => ?_⟩
        by_cases e : c = b
        · subst e; rw [up_at]; exact hx
        · rw [up_off (by omega)]; exact h1.2.2 c (by omega)
      have e : fw w 0 i b = if i = b then 0 else if w i b = 0 then 100000 else w i b := rfl
      have e149 : S1 149 (8 * i + b) = nI (w i b) := by rw [h1.1 149 (by decide)]; exact hi i b hi' hb
      have wb := hw i b
      show ok (KX10_tellFars_14 (LX10_tellFars_2 n) (LX10_tellFars_14 (LX10_tellFars_2 n) m) (nI i) (nI b) S1) _
      unfold KX10_tellFars_14
      rw [rd145_0, t1, if_neg (nI_ge hb (by omega)), i8]
      by_cases c : i = b
      · rw [if_pos (by rw [c])]
        exact put 0 (by rw [e, if_pos c]; rfl)
      · rw [if_neg (by rw [nI_eq (by omega) (by omega)]; exact c), rd149 (by omega), e149]
        by_cases c2 : w i b = 0
        · rw [if_pos (by rw [c2]; decide)]
          exact put 100000 (by rw [e, if_neg c, if_pos c2]; rfl)
        · rw [if_neg (show ¬ _ ≤ (0 : Int32) from nI_ge (a := 0) (by omega) (by omega)), rd149 (by omega), e149]
          exact put _ (by rw [e, if_neg c, if_neg c2])
