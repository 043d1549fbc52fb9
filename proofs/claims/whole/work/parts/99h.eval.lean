/-! what a rule answers: the class's code, the reference's signs -/
def gOf (A : List Nat) : Gf := fun w => ((ev w A []).getD []).headD 0
theorem ev1_op2 {w : Rw} {o : Nat} {y z : Int32} {r : List Int32} (h : o ≠ 4) : ev1 w (30000 + o) (y :: z :: r) = some (opV o z y :: r) := by
  unfold ev1; rw [if_neg (by omega), if_neg (by omega), if_neg (by omega), show 30000 + o - 30000 = o by omega]
theorem ev1_op1 {w : Rw} {o : Nat} {y : Int32} (h : o ≠ 4) : ev1 w (30000 + o) [y] = none := by
  unfold ev1; rw [if_neg (by omega), if_neg (by omega), if_neg (by omega)]
theorem ev1_op0 {w : Rw} {o : Nat} (h : o ≠ 4) : ev1 w (30000 + o) [] = none := by
  unfold ev1; rw [if_neg (by omega), if_neg (by omega), if_neg (by omega)]
theorem ev1_congr {w w' : Rw} (h : ∀ i, i < 5 → w i = w' i) {x : Nat} (hx : aOk x) {st : List Int32} : ev1 w x st = ev1 w' x st := by
  unfold ev1
  by_cases c : x < 20000
  · rw [if_pos c, if_pos c]
  · rw [if_neg c, if_neg c]
    by_cases c2 : x < 30000
    · rw [if_pos c2, if_pos c2, h (x - 20000) (by unfold aOk at hx; omega)]
    · rw [if_neg c2, if_neg c2]
theorem ev_congr {w w' : Rw} (h : ∀ i, i < 5 → w i = w' i) : ∀ (A : List Nat) (st : List Int32), (∀ x ∈ A, aOk x) → ev w A st = ev w' A st := by
  intro A
  induction A with
  | nil => intro st _; rfl
  | cons x A ih =>
    intro st hA
    show (match ev1 w x st with | none => none | some st' => ev w A st') = (match ev1 w' x st with | none => none | some st' => ev w' A st')
    rw [ev1_congr h (hA x (List.mem_cons_self))]
    cases ev1 w' x st with
    | none => rfl
    | some st' => exact ih st' (fun y hy => hA y (List.mem_cons_of_mem _ hy))
theorem gOf_5 {A : List Nat} (hA : ∀ x ∈ A, aOk x) : g5 (gOf A) := fun w w' h => by unfold gOf; rw [ev_congr h A [] hA]
theorem gOf_e {A : List Nat} (h : Sem 31 A) (w : Rw) : ev w A [] = some [gOf A w] := by
  obtain ⟨x, hx⟩ := h w [] (by decide)
  unfold gOf
  rw [hx]; rfl
theorem gdm {α : Type} {L R : List α} {x d : α} : (L ++ x :: R).getD L.length d = x := by simp [List.getD_eq_getElem?_getD]
/-- numbers that wait in a row -/
def Sk (S : St) (c : Nat) : List Int32 → Prop
  | [] => True
  | x :: r => S c r.length = x ∧ Sk S c r
theorem Sk.up {S : St} {c m : Nat} {y : Int32} : ∀ {L : List Int32}, L.length ≤ m → Sk S c L → Sk (up S c m y) c L := by
  intro L
  induction L with
  | nil => intro _ _; trivial
  | cons x r ih => intro hl h; have hl' : r.length + 1 ≤ m := hl; exact ⟨by rw [up_off (by omega)]; exact h.1, ih (by omega) h.2⟩
theorem op_N : ∀ o, o < 11 → 2 ≤ o → o ≠ 4 → ¬ (0 : Int32) ≤ opI o ∧ (-20 : Int32) < opI o := by decide +kernel
theorem val_N : ∀ j, j < 5 → ¬ (0 : Int32) ≤ opI (20 + j) ∧ ¬ (-20 : Int32) < opI (20 + j) ∧ opI (20 + j) < 0 ∧ (-20 : Int32) - opI (20 + j) = nI j := by decide +kernel
theorem num_lt {a : Nat} (h : a ≤ 9999) : (-20 : Int32) - nI a < 5 := by
  rw [Int32.lt_iff_toInt_lt, Int32.toInt_sub, nI_toInt (by omega)]
  have e20 : ((-20 : Int32)).toInt = -20 := by decide
  have e5 : ((5 : Int32)).toInt = 5 := by decide
  rw [e20, e5, Int.bmod_eq_of_le (by omega) (by omega)]
  omega
/-- rule, row of its code, row of its stack -/
def RuS (rid cd st : Nat) : Prop := (rid = 13 ∧ cd = 12 ∧ st = 14) ∨ (rid = 15 ∧ cd = 12 ∧ st = 16) ∨ (rid = 28 ∧ cd = 27 ∧ st = 29) ∨ (rid = 30 ∧ cd = 27 ∧ st = 31)
theorem RuS.s {rid cd st : Nat} (h : RuS rid cd st) : sr rid 1 = cd ∧ ln cd = 701 ∧ sr rid 4 = st ∧ ln st = 40 ∧ st ≠ rid ∧ st ≠ cd ∧ st ≠ 136 := by
  rcases h with ⟨rfl, rfl, rfl⟩ | ⟨rfl, rfl, rfl⟩ | ⟨rfl, rfl, rfl⟩ | ⟨rfl, rfl, rfl⟩ <;> exact ⟨rfl, rfl, rfl, rfl, by decide, by decide, by decide⟩
theorem C_op2 {rid cd st k i o : Nat} {S : St} {y z : Int32} {r : List Int32} {Q : Int32 × St → Prop} (hR : RuS rid cd st) (o2 : 2 ≤ o) (o10 : o ≤ 10) (o4 : o ≠ 4) (hi : i < 701) (e3 : ∃ t, S rid 3 = nI t ∧ i < t ∧ t < 2 ^ 30) (ec : S cd i = opI o) (hs : Sk S st (y :: z :: r)) (hl : r.length + 2 ≤ 40) (hk : ok (LX3_answer_7 k rid 136 (nI (r.length + 1)) (nI (i + 1)) (up S st r.length (opV o z y))) Q) : ok (LX3_answer_7 (k + 1) rid 136 (nI (r.length + 2)) (nI i) S) Q := by
  obtain ⟨q1, q2, q3, q4, q5, q6, q7⟩ := hR.s
  obtain ⟨t, t3, ti, t30⟩ := e3
  obtain ⟨n1, n2⟩ := op_N o (by omega) o2 o4
  obtain ⟨h1, h2, -⟩ := hs
  have h1' : S st (r.length + 1) = y := h1
  have fin : ∀ v : Int32, v = opV o z y → ok (BX3_answer_280 (LX3_answer_7 k) rid 136 (nI (r.length + 1)) (nI i) v S) Q := by
    intro v hv
    unfold BX3_answer_280 BX3_answer_290
    rw [q3, nI_pred, wr_g (by rw [q4]; omega), vl_s, nI_1, hv]
    exact hk
  show ok (KX3_answer_7 (LX3_answer_7 k) rid 136 (nI (r.length + 2)) (nI i) S) Q
  unfold KX3_answer_7
  rw [t3, if_neg (nI_ge ti (by omega)), q1, rd_g (by rw [q2]; omega), ec, if_neg n1, if_pos n2, if_neg (show ¬ _ < (2 : Int32) from nI_nlt (b := 2) (by omega) (by omega)), vl_s, show nI (r.length + 2) + -1 = nI (r.length + 1) from pk_m1 (r.length + 1), nI_pred, q3, rd_g (by rw [q4]; omega), h2, rd_g (by rw [q4]; omega), h1']
  have cs : o = 9 ∨ o = 8 ∨ o = 7 ∨ o = 6 ∨ o = 5 ∨ o = 3 ∨ o = 2 ∨ o = 10 := by omega
  rcases cs with rfl | rfl | rfl | rfl | rfl | rfl | rfl | rfl
  · rw [if_pos (by decide), vl_s]; exact fin _ rfl
  · rw [if_neg (by decide), if_pos (by decide), vl_s]; exact fin _ rfl
  · rw [if_neg (by decide), if_neg (by decide), if_pos (by decide), vl_s]; exact fin _ rfl
  · rw [if_neg (by decide), if_neg (by decide), if_neg (by decide), if_pos (by decide)]
    unfold BX3_answer_229
    have e : opV 6 z y = if z = y then 1 else 0 := rfl
    by_cases c : z = y
    · rw [if_pos c]; exact fin _ (by rw [e, if_pos c])
    · rw [if_neg c]; exact fin _ (by rw [e, if_neg c])
  · rw [if_neg (by decide), if_neg (by decide), if_neg (by decide), if_neg (by decide), if_pos (by decide)]
    unfold BX3_answer_212
    have e : opV 5 z y = if y ≤ z then 0 else 1 := rfl
    by_cases c : y ≤ z
    · rw [if_pos c]; exact fin _ (by rw [e, if_pos c])
    · rw [if_neg c]; exact fin _ (by rw [e, if_neg c])
  · rw [if_neg (by decide), if_neg (by decide), if_neg (by decide), if_neg (by decide), if_neg (by decide), if_pos (by decide)]
    unfold BX3_answer_194 BX3_answer_195
    have e : opV 3 z y = if z = 0 then 0 else (if y = 0 then 0 else 1) := rfl
    by_cases c : z = 0
    · rw [if_pos c]; exact fin _ (by rw [e, if_pos c])
    · rw [if_neg c]
      by_cases c2 : y = 0
      · rw [if_pos c2]; exact fin _ (by rw [e, if_neg c, if_pos c2])
      · rw [if_neg c2]; exact fin _ (by rw [e, if_neg c, if_neg c2])
  · rw [if_neg (by decide), if_neg (by decide), if_neg (by decide), if_neg (by decide), if_neg (by decide), if_neg (by decide), if_pos (by decide)]
    unfold BX3_answer_170 BX3_answer_175
    have e : opV 2 z y = if z = 0 then (if y = 0 then 0 else 1) else 1 := rfl
    by_cases c : z = 0
    · rw [if_pos c]
      by_cases c2 : y = 0
      · rw [if_pos c2]; exact fin _ (by rw [e, if_pos c, if_pos c2])
      · rw [if_neg c2]; exact fin _ (by rw [e, if_pos c, if_neg c2])
    · rw [if_neg c]; exact fin _ (by rw [e, if_neg c])
  · rw [if_neg (by decide), if_neg (by decide), if_neg (by decide), if_neg (by decide), if_neg (by decide), if_neg (by decide), if_neg (by decide)]
    unfold BX3_answer_264 BX3_answer_278
    have e : opV 10 z y = if y = 0 then 0 else z / y := rfl
    by_cases c : y = 0
    · rw [if_pos c]; exact fin _ (by rw [e, if_pos c])
    · rw [if_neg c]
      unfold dv
      rw [if_neg c]; exact fin _ (by rw [e, if_neg c])
theorem C_push {rid cd st k i : Nat} {S : St} {x v : Int32} {L : List Int32} {Q : Int32 × St → Prop} (hR : RuS rid cd st) (hi : i < 701) (e3 : ∃ t, S rid 3 = nI t ∧ i < t ∧ t < 2 ^ 30) (ec : S cd i = x) (hx : (∃ a, a ≤ 9999 ∧ x = nI a ∧ v = x) ∨ (∃ j, j < 5 ∧ x = opI (20 + j) ∧ v = S 136 j)) (hl : L.length < 40) (hk : ok (LX3_answer_7 k rid 136 (nI (L.length + 1)) (nI (i + 1)) (up S st L.length v)) Q) : ok (LX3_answer_7 (k + 1) rid 136 (nI L.length) (nI i) S) Q := by
  obtain ⟨q1, q2, q3, q4, q5, q6, q7⟩ := hR.s
  obtain ⟨t, t3, ti, t30⟩ := e3
  have fin : BX3_answer_78 (LX3_answer_7 k) rid 136 (nI L.length) (nI i) st (nI L.length) v S = LX3_answer_7 k rid 136 (nI (L.length + 1)) (nI (i + 1)) (up S st L.length v) := by
    unfold BX3_answer_78 BX3_answer_290
    rw [wr_g (by rw [q4]; omega), vl_s, nI_1, vl_s, nI_1]
  show ok (KX3_answer_7 (LX3_answer_7 k) rid 136 (nI L.length) (nI i) S) Q
  unfold KX3_answer_7
  rw [t3, if_neg (nI_ge ti (by omega)), q1, rd_g (by rw [q2]; omega), ec]
  have l40 : ¬ nI (ln st) ≤ nI L.length := by rw [q4]; exact nI_ge hl (by decide)
  rcases hx with ⟨a, a9, rfl, rfl⟩ | ⟨j, j5, rfl, rfl⟩
  · rw [if_pos (nI_pos' (by omega))]
    unfold BX3_answer_35
    rw [q3, if_neg l40, show nI (ln 136) = (5 : Int32) from rfl, if_pos (num_lt a9), if_neg (nI_pos (by omega)), fin]
    exact hk
  · obtain ⟨n1, n2, n3, n4⟩ := val_N j j5
    rw [if_neg n1, if_neg n2]
    unfold BX3_answer_35
    rw [q3, if_neg l40, n4, show nI (ln 136) = nI 5 from rfl, if_pos (nI_lt j5 (by decide)), if_pos n3, rd136 j5, fin]
    exact hk
theorem C_run {rid cd st f : Nat} {A : List Nat} {S0 : St} (hR : RuS rid cd st) (hA : ∀ x ∈ A, aOk x) (h3 : S0 rid 3 = nI (f + (cC A).length)) (h7 : f + (cC A).length ≤ 700) (hO : Ou S0 cd f (cC A)) : ∀ (A2 A1 : List Nat) (L : List Int32) (k : Nat) (S : St) (v : Int32), A = A1 ++ A2 → (∀ a, a ≠ st → S a = S0 a) → Sk S st L → L.length ≤ 40 → ev (S0 136) A2 L = some [v] → (cC A2).length < k → ok (LX3_answer_7 k rid 136 (nI L.length) (nI (f + (cC A1).length)) S) (fun r => r.1 = v ∧ ∀ a, a ≠ st → r.2 a = S0 a) := by
  obtain ⟨q1, q2, q3, q4, q5, q6, q7⟩ := hR.s
  intro A2
  induction A2 with
  | nil =>
    intro A1 L k S v hAe hf hs hl he hk
    rw [List.append_nil] at hAe
    have hL : L = [v] := by
      have : some L = some [v] := he
      injection this
    subst hL
    have k0 : 0 < k := by omega
    obtain ⟨k', rfl⟩ : ∃ k', k = k' + 1 := ⟨k - 1, by omega⟩
    show ok (KX3_answer_7 (LX3_answer_7 k') rid 136 (nI 1) (nI (f + (cC A1).length)) S) _
    unfold KX3_answer_7
    have e3 : S rid 3 = nI (f + (cC A1).length) := by rw [hf rid (fun z => q5 z.symm), h3, hAe]
    rw [e3, if_pos (nI_le (Nat.le_refl _) (by rw [← hAe]; omega)), if_neg (by decide), show nI 1 - 1 = nI 0 from rfl, q3, rd_g (by rw [q4]; decide)]
    have hs' : S st 0 = v := hs.1
    exact ok_ri ⟨hs', hf⟩
  | cons x A2 ih =>
    intro A1 L k S v hAe hf hs hl he hk
    have hx : aOk x := hA x (by rw [hAe]; exact List.mem_append_right _ List.mem_cons_self)
    have hcA : cC A = cC A1 ++ (toC x ++ cC A2) := by
      rw [hAe]; unfold cC; rw [List.flatMap_append, List.flatMap_cons]
    have hlen : (cC A).length = (cC A1).length + ((toC x).length + (cC A2).length) := by rw [hcA, List.length_append, List.length_append]
    have hk2 : (cC (x :: A2)).length = (toC x).length + (cC A2).length := by unfold cC; rw [List.flatMap_cons, List.length_append]
    have hA' : A = (A1 ++ [x]) ++ A2 := by rw [hAe, List.append_assoc]; rfl
    have hc1 : (cC (A1 ++ [x])).length = (cC A1).length + (toC x).length := by rw [cC_snoc, List.length_append]
    have e3 : S rid 3 = nI (f + (cC A).length) := by rw [hf rid (fun z => q5 z.symm), h3]
    have hev : (match ev1 (S0 136) x L with | none => none | some st' => ev (S0 136) A2 st') = some [v] := he
    by_cases c4 : x = 30004
    · subst c4
      rw [toC_4] at hcA hlen hk2 hc1
      have l2 : ([0, -6] : List Int32).length = 2 := rfl
      rw [l2] at hlen hk2 hc1
      cases L with
      | nil => exact absurd hev (by intro z; cases z)
      | cons y r =>
        have e1 : ev1 (S0 136) 30004 (y :: r) = if r.length + 1 < 40 then some ((if y = 0 then 1 else 0) :: r) else none := rfl
        rw [e1] at hev
        by_cases c40 : r.length + 1 < 40
        · rw [if_pos c40] at hev
          obtain ⟨k', rfl⟩ : ∃ k', k = k' + 2 := ⟨k - 2, by omega⟩
          have ec0 : S cd (f + (cC A1).length) = 0 := by
            rw [hf cd (fun z => q6 z.symm), hO _ (by omega), hcA]; exact gdm
          have ec1 : S cd (f + (cC A1).length + 1) = opI 6 := by
            rw [hf cd (fun z => q6 z.symm), Nat.add_assoc, hO _ (by omega), hcA, show cC A1 ++ ([0, -6] ++ cC A2) = (cC A1 ++ [0]) ++ (-6 :: cC A2) by simp, show (cC A1).length + 1 = (cC A1 ++ [(0 : Int32)]).length by rw [List.length_append]; rfl]
            exact gdm
          refine C_push (L := y :: r) (x := 0) (v := 0) hR (by omega) ⟨_, e3, by omega, by omega⟩ ec0 (Or.inl ⟨0, by decide, rfl, rfl⟩) c40 ?_
          refine C_op2 (o := 6) (y := 0) (z := y) (r := r) hR (by decide) (by decide) (by decide) (by omega) ⟨_, by rw [up_ne (fun z => q5 z.symm)]; exact e3, by omega, by omega⟩ (by rw [up_ne (fun z => q6 z.symm)]; exact ec1) ⟨by show up S st (r.length + 1) 0 st (r.length + 1) = 0; rw [up_at], Sk.up (L := y :: r) (Nat.le_refl _) hs⟩ (by omega) ?_
          have := ih (A1 ++ [30004]) ((if y = 0 then 1 else 0) :: r) k' (up (up S st (r.length + 1) 0) st r.length (opV 6 y 0)) v hA' (fun a ha => by rw [up_ne ha, up_ne ha]; exact hf a ha) ⟨by rw [up_at]; rfl, Sk.up (Nat.le_refl _) (Sk.up (by omega) hs.2)⟩ (by show r.length + 1 ≤ 40; omega) hev (by omega)
          rw [hc1, show f + ((cC A1).length + 2) = f + (cC A1).length + 1 + 1 by omega] at this
          exact this
        · rw [if_neg c40] at hev; cases hev
    · rw [toC_1 c4] at hcA hlen hk2 hc1
      have l1 : ([aI x] : List Int32).length = 1 := rfl
      rw [l1] at hlen hk2 hc1
      obtain ⟨k', rfl⟩ : ∃ k', k = k' + 1 := ⟨k - 1, by omega⟩
      have ec : S cd (f + (cC A1).length) = aI x := by
        rw [hf cd (fun z => q6 z.symm), hO _ (by omega), hcA]; exact gdm
      have push : ∀ u : Int32, ((∃ a, a ≤ 9999 ∧ aI x = nI a ∧ u = aI x) ∨ (∃ j, j < 5 ∧ aI x = opI (20 + j) ∧ u = S 136 j)) → L.length < 40 → ev (S0 136) A2 (u :: L) = some [v] → ok (LX3_answer_7 (k' + 1) rid 136 (nI L.length) (nI (f + (cC A1).length)) S) (fun r => r.1 = v ∧ ∀ a, a ≠ st → r.2 a = S0 a) := by
        intro u hu hl40 he2
        refine C_push hR (by omega) ⟨_, e3, by omega, by omega⟩ ec hu hl40 ?_
        have := ih (A1 ++ [x]) (u :: L) k' (up S st L.length u) v hA' (fun a ha => by rw [up_ne ha]; exact hf a ha) ⟨up_at, Sk.up (Nat.le_refl _) hs⟩ (by show L.length + 1 ≤ 40; omega) he2 (by omega)
        rw [hc1, show f + ((cC A1).length + 1) = f + (cC A1).length + 1 by omega] at this
        exact this
      rcases hx with hx | hx | hx
      · have eA : aI x = nI x := by unfold aI; rw [if_pos (by omega)]
        have e1 : ev1 (S0 136) x L = if L.length < 40 then some (nI x :: L) else none := by unfold ev1; rw [if_pos (by omega)]
        rw [e1] at hev
        by_cases c40 : L.length < 40
        · rw [if_pos c40] at hev
          exact push (nI x) (Or.inl ⟨x, hx, eA, eA.symm⟩) c40 hev
        · rw [if_neg c40] at hev; cases hev
      · obtain ⟨j, rfl⟩ : ∃ j, x = 20000 + j := ⟨x - 20000, by omega⟩
        have eA : aI (20000 + j) = opI (20 + j) := by unfold aI; rw [if_neg (by omega), if_pos (by omega), show 20000 + j - 19980 = 20 + j by omega]
        have e1 : ev1 (S0 136) (20000 + j) L = if L.length < 40 then some (S0 136 j :: L) else none := by unfold ev1; rw [if_neg (by omega), if_pos (by omega), show 20000 + j - 20000 = j by omega]
        rw [e1] at hev
        by_cases c40 : L.length < 40
        · rw [if_pos c40] at hev
          exact push (S0 136 j) (Or.inr ⟨j, by omega, eA, by rw [hf 136 (fun z => q7 z.symm)]⟩) c40 hev
        · rw [if_neg c40] at hev; cases hev
      · obtain ⟨o, rfl⟩ : ∃ o, x = 30000 + o := ⟨x - 30000, by omega⟩
        have o4 : o ≠ 4 := by omega
        rw [aI_op] at ec
        cases L with
        | nil => rw [ev1_op0 o4] at hev; cases hev
        | cons y L1 =>
          cases L1 with
          | nil => rw [ev1_op1 o4] at hev; cases hev
          | cons z r =>
            rw [ev1_op2 o4] at hev
            have hl' : r.length + 2 ≤ 40 := hl
            refine C_op2 (o := o) (y := y) (z := z) (r := r) hR (by omega) (by omega) (by omega) (by omega) ⟨_, e3, by omega, by omega⟩ ec hs hl' ?_
            have := ih (A1 ++ [30000 + o]) (opV o z y :: r) k' (up S st r.length (opV o z y)) v hA' (fun a ha => by rw [up_ne ha]; exact hf a ha) ⟨up_at, Sk.up (Nat.le_refl _) hs.2.2⟩ (by show r.length + 1 ≤ 40; omega) hev (by omega)
            rw [hc1, show f + ((cC A1).length + 1) = f + (cC A1).length + 1 by omega] at this
            exact this
theorem RC_of {rid cd st f : Nat} {A : List Nat} {S : St} (hR : RuS rid cd st) (hA : ∀ x ∈ A, aOk x) (hS : Sem 31 A) (h2 : S rid 2 = nI f) (h3 : S rid 3 = nI (f + (cC A).length)) (h7 : f + (cC A).length ≤ 700) (hO : Ou S cd f (cC A)) : RC rid cd st (gOf A) S := by
  intro S' e1 e2
  obtain ⟨q1, q2, q3, q4, q5, q6, q7⟩ := hR.s
  obtain ⟨⟨v, S''⟩, e, r1, r2⟩ := C_run (S0 := S') hR hA (by rw [e1]; exact h3) h7 (hO.go e2) A [] [] FU S' (gOf A (S' 136)) rfl (fun _ _ => rfl) trivial (by decide) (gOf_e hS _) (by unfold FU; omega)
  refine ⟨S'', ?_, r2⟩
  unfold fX3_answer
  rw [vl_s, e1, h2]
  have r1' : v = gOf A (S' 136) := r1
  rw [← r1']
  exact e
/-! the reference -/
theorem mop_N : ∀ o, o < 11 → 2 ≤ o → o ≠ 4 → mOp o ≤ -20 ∧ ¬ mOp o = -28 := by decide +kernel
theorem mval_N : ∀ j, j < 5 → ¬ toM (20000 + j) ≤ -20 ∧ toM (20000 + j) < 0 ∧ (-1 : Int32) - toM (20000 + j) = nI j := by decide +kernel
theorem reck {o : Nat} (o2 : 2 ≤ o) (o10 : o ≤ 10) (o4 : o ≠ 4) (z y : Int32) (S : St) : fX10_reckon (mOp o) z y S = some (opV o z y, S) := by
  have cs : o = 9 ∨ o = 8 ∨ o = 7 ∨ o = 6 ∨ o = 5 ∨ o = 3 ∨ o = 2 ∨ o = 10 := by omega
  unfold fX10_reckon
  rcases cs with rfl | rfl | rfl | rfl | rfl | rfl | rfl | rfl
  · rw [if_neg (by decide), if_neg (by decide), if_neg (by decide), if_neg (by decide), if_pos (by decide)]; rfl
  · rw [if_neg (by decide), if_neg (by decide), if_neg (by decide), if_neg (by decide), if_neg (by decide), if_pos (by decide)]; rfl
  · rw [if_neg (by decide), if_neg (by decide), if_neg (by decide), if_neg (by decide), if_neg (by decide), if_neg (by decide), if_pos (by decide)]; rfl
  · rw [if_neg (by decide), if_pos (by decide)]
    have e : opV 6 z y = if z = y then 1 else 0 := rfl
    rw [e]; split <;> rfl
  · rw [if_neg (by decide), if_neg (by decide), if_pos (by decide)]
    have e : opV 5 z y = if y ≤ z then 0 else 1 := rfl
    rw [e]; split <;> rfl
  · rw [if_pos (by decide)]
    have e : opV 3 z y = if z = 0 then 0 else (if y = 0 then 0 else 1) := rfl
    rw [e]
    split
    · rfl
    · split <;> rfl
  · rw [if_neg (by decide), if_neg (by decide), if_neg (by decide), if_neg (by decide), if_neg (by decide), if_neg (by decide), if_neg (by decide)]
    have e : opV 2 z y = if z = 0 then (if y = 0 then 0 else 1) else 1 := rfl
    rw [e]
    split
    · split <;> rfl
    · rfl
  · rw [if_neg (by decide), if_neg (by decide), if_neg (by decide), if_pos (by decide)]
    have e : opV 10 z y = if y = 0 then 0 else z / y := rfl
    rw [e]
    by_cases c : y = 0
    · rw [if_pos c, if_pos c]; rfl
    · rw [if_neg c, if_neg c]
      unfold dv
      rw [if_neg c]; rfl
theorem M_run {c : Nat} {A : List Nat} {S0 : St} (hc : c = 154 ∨ c = 155) (hA : ∀ x ∈ A, aOk x) (h7 : A.length ≤ 700) (hO : ∀ j, j < A.length → S0 c j = toM (A.getD j 0)) : ∀ (A2 A1 : List Nat) (L : List Int32) (k : Nat) (S : St) (v : Int32), A = A1 ++ A2 → (∀ a, a ≠ 166 → S a = S0 a) → Sk S 166 L → L.length ≤ 40 → ev (S0 165) A2 L = some [v] → A2.length < k → ok (LX10_valueNow_5 k c (nI A.length) (nI L.length) (nI A1.length) S) (fun r => r.1 = v ∧ ∀ a, a ≠ 166 → r.2 a = S0 a) := by
  have lc : ln c = 1400 := by rcases hc with rfl | rfl <;> rfl
  intro A2
  induction A2 with
  | nil =>
    intro A1 L k S v hAe hf hs hl he hk
    rw [List.append_nil] at hAe
    have hL : L = [v] := by
      have : some L = some [v] := he
      injection this
    subst hL
    have k0 : 0 < k := by omega
    obtain ⟨k', rfl⟩ : ∃ k', k = k' + 1 := ⟨k - 1, by omega⟩
    show ok (KX10_valueNow_5 (LX10_valueNow_5 k') c (nI A.length) (nI 1) (nI A1.length) S) _
    unfold KX10_valueNow_5
    rw [hAe, if_pos (nI_le (Nat.le_refl _) (by rw [← hAe]; omega)), rd166_0]
    have hs' : S 166 0 = v := hs.1
    exact ok_ri ⟨hs', hf⟩
  | cons x A2 ih =>
    intro A1 L k S v hAe hf hs hl he hk
    have hx : aOk x := hA x (by rw [hAe]; exact List.mem_append_right _ List.mem_cons_self)
    have hlen : A.length = A1.length + (A2.length + 1) := by rw [hAe, List.length_append]; rfl
    have hk' : A2.length + 1 < k := hk
    have hA' : A = (A1 ++ [x]) ++ A2 := by rw [hAe, List.append_assoc]; rfl
    have hc1 : (A1 ++ [x]).length = A1.length + 1 := by rw [List.length_append]; rfl
    have hev : (match ev1 (S0 165) x L with | none => none | some st' => ev (S0 165) A2 st') = some [v] := he
    obtain ⟨k', rfl⟩ : ∃ k', k = k' + 1 := ⟨k - 1, by omega⟩
    have ec : S c A1.length = toM x := by
      rw [hf c (by omega), hO _ (by omega), hAe]
      exact congrArg toM gdm
    have nxt : ∀ (L' : List Int32) (S' : St), (∀ a, a ≠ 166 → S' a = S0 a) → Sk S' 166 L' → L'.length ≤ 40 → ev (S0 165) A2 L' = some [v] → ok (LX10_valueNow_5 k' c (nI A.length) (nI L'.length) (nI (A1.length + 1)) S') (fun r => r.1 = v ∧ ∀ a, a ≠ 166 → r.2 a = S0 a) := by
      intro L' S' h1 h2 h3 h4
      have := ih (A1 ++ [x]) L' k' S' v hA' h1 h2 h3 h4 (by omega)
      rw [hc1] at this
      exact this
    show ok (KX10_valueNow_5 (LX10_valueNow_5 k') c (nI A.length) (nI L.length) (nI A1.length) S) _
    unfold KX10_valueNow_5
    rw [if_neg (nI_ge (by omega) (by omega)), rd_g (by rw [lc]; omega), ec]
    have push : ∀ u : Int32, L.length < 40 → ev (S0 165) A2 (u :: L) = some [v] → ok (BX10_valueNow_48 (LX10_valueNow_5 k') c (nI A.length) (nI L.length) (nI A1.length) (nI L.length) u S) (fun r => r.1 = v ∧ ∀ a, a ≠ 166 → r.2 a = S0 a) := by
      intro u hl40 he2
      unfold BX10_valueNow_48 BX10_valueNow_119
      rw [wr166 (by omega), vl_s, nI_1, vl_s, nI_1]
      exact nxt (u :: L) _ (fun a ha => by rw [up_ne ha]; exact hf a ha) ⟨up_at, Sk.up (Nat.le_refl _) hs⟩ (by show L.length + 1 ≤ 40; omega) he2
    rcases hx with hx | hx | hx
    · have eA : toM x = nI x := by unfold toM; rw [if_pos (by omega)]
      have e1 : ev1 (S0 165) x L = if L.length < 40 then some (nI x :: L) else none := by unfold ev1; rw [if_pos (by omega)]
      rw [e1] at hev
      have n20 : ¬ nI x ≤ (-20 : Int32) := by
        rw [Int32.le_iff_toInt_le, nI_toInt (by omega)]
        have : ((-20 : Int32)).toInt = -20 := by decide
        omega
      by_cases c40 : L.length < 40
      · rw [if_pos c40] at hev
        rw [eA, if_neg n20, if_neg (nI_pos (by omega))]
        exact push (nI x) c40 hev
      · rw [if_neg c40] at hev; cases hev
    · obtain ⟨j, rfl⟩ : ∃ j, x = 20000 + j := ⟨x - 20000, by omega⟩
      obtain ⟨n1, n2, n3⟩ := mval_N j (by omega)
      have e1 : ev1 (S0 165) (20000 + j) L = if L.length < 40 then some (S0 165 j :: L) else none := by unfold ev1; rw [if_neg (by omega), if_pos (by omega), show 20000 + j - 20000 = j by omega]
      rw [e1] at hev
      by_cases c40 : L.length < 40
      · rw [if_pos c40] at hev
        rw [if_neg n1, if_pos n2, n3, rd165 (by omega), hf 165 (by decide)]
        exact push (S0 165 j) c40 hev
      · rw [if_neg c40] at hev; cases hev
    · obtain ⟨o, rfl⟩ : ∃ o, x = 30000 + o := ⟨x - 30000, by omega⟩
      have eA : toM (30000 + o) = mOp o := by unfold toM; rw [if_neg (by omega), if_neg (by omega), show 30000 + o - 30000 = o by omega]
      rw [eA]
      by_cases c4 : o = 4
      · subst c4
        cases L with
        | nil => cases hev
        | cons y r =>
          have e1 : ev1 (S0 165) (30000 + 4) (y :: r) = if r.length + 1 < 40 then some ((if y = 0 then 1 else 0) :: r) else none := rfl
          rw [e1] at hev
          by_cases c40 : r.length + 1 < 40
          · rw [if_pos c40] at hev
            have hs1 : S 166 r.length = y := hs.1
            have l1 : nI (y :: r).length = nI (r.length + 1) := rfl
            rw [if_pos (by decide), if_pos (by decide), l1, nI_pred, rd166 (by omega), hs1]
            have fin : ∀ u : Int32, u = (if y = 0 then 1 else 0) → ok (BX10_valueNow_85 (LX10_valueNow_5 k') c (nI A.length) (nI (r.length + 1)) (nI A1.length) (nI r.length) u S) (fun r => r.1 = v ∧ ∀ a, a ≠ 166 → r.2 a = S0 a) := by
              intro u hu
              unfold BX10_valueNow_85 BX10_valueNow_119
              rw [wr166 (by omega), vl_s, nI_1]
              exact nxt (u :: r) _ (fun a ha => by rw [up_ne ha]; exact hf a ha) ⟨up_at, Sk.up (Nat.le_refl _) hs.2⟩ (by show r.length + 1 ≤ 40; omega) (by rw [hu]; exact hev)
            by_cases cy : y = 0
            · rw [if_pos cy]; exact fin 1 (by rw [if_pos cy])
            · rw [if_neg cy]; exact fin 0 (by rw [if_neg cy])
          · rw [if_neg c40] at hev; cases hev
      · obtain ⟨n1, n2⟩ := mop_N o (by omega) (by omega) c4
        cases L with
        | nil => rw [ev1_op0 c4] at hev; cases hev
        | cons y L1 =>
          cases L1 with
          | nil => rw [ev1_op1 c4] at hev; cases hev
          | cons z r =>
            rw [ev1_op2 c4] at hev
            have hl' : r.length + 2 ≤ 40 := hl
            have hs1 : S 166 (r.length + 1) = y := hs.1
            have hs2 : S 166 r.length = z := hs.2.1
            have l1 : nI (y :: z :: r).length + -1 = nI (r.length + 1) := pk_m1 (r.length + 1)
            rw [if_pos n1, if_neg n2, l1, vl_s, nI_pred, rd166 (by omega), hs2, rd166 (by omega), hs1, reck (by omega) (by omega) c4, bd_s, wr166 (by omega)]
            unfold BX10_valueNow_119
            rw [vl_s, nI_1]
            exact nxt (opV o z y :: r) _ (fun a ha => by rw [up_ne ha]; exact hf a ha) ⟨up_at, Sk.up (Nat.le_refl _) hs.2.2⟩ (by show r.length + 1 ≤ 40; omega) hev
theorem RM_of {c : Nat} {A : List Nat} {S : St} (hc : c = 154 ∨ c = 155) (hA : ∀ x ∈ A, aOk x) (hS : Sem 31 A) (h7 : A.length ≤ 700) (hO : ∀ j, j < A.length → S c j = toM (A.getD j 0)) : RM c A.length (gOf A) S := by
  intro S' e1
  obtain ⟨⟨v, S''⟩, e, r1, r2⟩ := M_run (S0 := S') hc hA h7 (fun j hj => by rw [e1 j (by omega)]; exact hO j hj) A [] [] FU S' (gOf A (S' 165)) rfl (fun _ _ => rfl) trivial (by decide) (gOf_e hS _) (by unfold FU; omega)
  refine ⟨S'', ?_, r2⟩
  have r1' : v = gOf A (S' 165) := r1
  rw [← r1']
  exact e
