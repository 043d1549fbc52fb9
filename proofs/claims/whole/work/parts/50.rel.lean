/-! what class and reference have in common -/
def VX (V : Vy) (v : Nat) (S : St) : Prop := S v 1 = S 145 1 ∧ (∀ t, t < vF V → ∃ n, n ≤ 6 ∧ vT V t = nI n ∧ ∀ i, i < n → S (v + 3) (t * 6 + i) = S 148 (6 * t + i)) ∧ (∀ t, t < vF V → ∃ a, 1 ≤ a ∧ a ≤ 99 ∧ vA V t = nI a) ∧ (∀ a, a < vF V → S (v + 4) a = nI (hbits (fun k => decide (¬ S 149 (8 * a + k) ≤ 0)) (vF V))) ∧
  ∃ dn : Nat → Nat → Nat, (∀ a b, a < vF V → b < vF V → S (v + 5) (a * 8 + b) = nI (if dn a b < 10000 then dn a b else 1000000) ∧ S 164 (8 * a + b) = nI (if dn a b < 10000 then dn a b else 100000)) ∧ (∀ a, a < vF V → dn a a = 0) ∧ (∀ a b c, a < vF V → b < vF V → c < vF V → dn a c ≤ dn a b + dn b c) ∧ ∀ a b, a < vF V → b < vF V → dn a b ≤ 5120 ∨ 100000 ≤ dn a b
/-- the acts' rows, the oldest first: in the class, in the reference -/
def HC (S : St) (c n : Nat) (h : Nat → Rw) : Prop := ∃ o, o < 40 ∧ S c 3 = nI n ∧ S c 2 = nI o ∧ ∀ j, j < n → ag (S (c + 3 + (o + j) % 40)) (h j)
def HM (V : Vy) (pa : Rw) (na : Int32) (n : Nat) (h : Nat → Rw) : Prop := na = nI n ∧ ∀ j, j < n → ∀ i, rl V i → pa (106 * j + i) = h j i
def SR (V : Vy) (S : St) (c : Nat) (R pa : Rw) (na nh : Int32) (h1 h2 h3 st : Rw) : Prop :=
  rg V (S (c + 1)) R ∧ ROk V 10000 (S (c + 1)) ∧
  (∃ n h, n ≤ 40 ∧ HC S c n h ∧ HM V pa na n h ∧ ∀ j, j < n → ROk V 10000 (h j)) ∧
  (∃ m, m ≤ 8 ∧ S c 4 = nI m ∧ nh = nI m ∧ ∀ i, i < m → S (c + 43) i = h1 i ∧ S (c + 44) i = h2 i ∧ S (c + 45) i = h3 i ∧ (∃ f, f < vF V ∧ h1 i = nI f) ∧ (∃ k, 1 ≤ k ∧ k ≤ 30 ∧ h2 i = nI k) ∧ (h3 i = -1 ∨ ∃ t, t < vF V ∧ h3 i = nI t)) ∧
  (∀ i, i < 3 → S (c + 46) i = st i)
def Tp (S : St) : Prop := ∃ k, k ≤ 700 ∧ S 0 1 = nI k ∧ S 142 17 = nI k ∧ ∀ i, i < k → ∃ b, b < 256 ∧ S 157 i = nI b ∧ S 1 i = (nI b).toInt8.toInt32
def Im (V : Vy) (S : St) : Prop := (S 0 8 = 0 ∧ S 142 57 = 0) ∨ (S 0 8 = 1 ∧ S 142 57 = 1 ∧ SR V S 83 (S 180) (S 181) (S 142 58) (S 142 59) (S 182) (S 183) (S 184) (S 185))
def VV (V : Vy) (v : Nat) (S : St) : Prop := VC V v S ∧ VM V S ∧ VX V v S
def Rl (V : Vy) (v d : Nat) (S : St) : Prop := (v = 2 ∧ d = 17 ∨ v = 17 ∧ d = 2) ∧ S 0 3 = nI v ∧ S 0 4 = nI d ∧ VV V v S ∧ SR V S 36 (mr S) (S 163) (S 142 36) (S 142 37) (S 173) (S 174) (S 175) (S 156) ∧ Tp S ∧ S 0 2 = S 142 26 ∧ S 142 41 = -1 ∧ Im V S
def Rel (S : St) : Prop := ∃ V v d, Rl V v d S
/-! what stays -/
/-- calls of the class that only look on -/
def cK (S S' : St) : Prop := ∀ a, (a < 130 ∨ (141 < a ∧ a < 186)) → a ≠ 14 → a ≠ 16 → a ≠ 29 → a ≠ 31 → S' a = S a
/-- calls of the reference that only look on -/
def mK (S S' : St) : Prop := ag (mr S') (mr S) ∧ (∀ a, (a < 142 ∨ (142 < a ∧ a < 158) ∨ a = 163 ∨ a = 164 ∨ (172 < a ∧ a < 176) ∨ (179 < a ∧ a < 186)) → S' a = S a) ∧ ∀ j, (j = 17 ∨ j = 26 ∨ j = 36 ∨ j = 37 ∨ j = 41 ∨ j = 57 ∨ j = 58 ∨ j = 59) → S' 142 j = S 142 j
theorem cK.rf {S : St} : cK S S := fun _ _ _ _ _ _ => rfl
theorem cK.tr {S T U : St} (h : cK S T) (g : cK T U) : cK S U := fun a h1 h2 h3 h4 h5 => (g a h1 h2 h3 h4 h5).trans (h a h1 h2 h3 h4 h5)
theorem cFr.k {S T : St} (h : cFr S T) : cK S T := fun a h1 h2 h3 h4 h5 => h a (by omega) h2 h3 h4 h5
theorem cK.up {S T : St} (h : cK S T) {a i : Nat} {x : Int32} (ha : 130 ≤ a ∧ a ≤ 141) : cK S (up T a i x) := fun b h1 h2 h3 h4 h5 => by rw [up_ne (by omega)]; exact h b h1 h2 h3 h4 h5
theorem mK.rf {S : St} : mK S S := ⟨ag.rf, fun _ _ => rfl, fun _ _ => rfl⟩
theorem mK.tr {S T U : St} (h : mK S T) (g : mK T U) : mK S U := ⟨g.1.tr h.1, fun a ha => (g.2.1 a ha).trans (h.2.1 a ha), fun j hj => (g.2.2 j hj).trans (h.2.2 j hj)⟩
theorem mr_cell {S T : St} (h : ∀ a, (a = 142 ∨ (157 < a ∧ a < 163)) → T a = S a) : mr T = mr S := by
  funext j; unfold mr
  rw [h 142 (by omega), h 158 (by omega), h 159 (by omega), h 160 (by omega), h 161 (by omega), h 162 (by omega)]
theorem VX.go {V : Vy} {v : Nat} {S S' : St} (h : VX V v S) (h1 : S' v = S v) (h2 : S' (v + 3) = S (v + 3)) (h3 : S' (v + 4) = S (v + 4)) (h4 : S' (v + 5) = S (v + 5)) (h5 : S' 145 = S 145) (h6 : S' 148 = S 148) (h7 : S' 149 = S 149) (h8 : S' 164 = S 164) : VX V v S' := by
  unfold VX at h ⊢
  rw [h1, h2, h3, h4, h5, h6, h7, h8]
  exact h
theorem HC.go {S S' : St} {c n : Nat} {h : Nat → Rw} (hh : HC S c n h) (h2 : S' c 2 = S c 2) (h3 : S' c 3 = S c 3) (hk : ∀ a, c + 3 ≤ a → a ≤ c + 42 → S' a = S a) : HC S' c n h := by
  obtain ⟨o, o4, e3, e2, ej⟩ := hh
  refine ⟨o, o4, by rw [h3]; exact e3, by rw [h2]; exact e2, fun j hj => ?_⟩
  have := Nat.mod_lt (o + j) (by decide : 40 > 0)
  rw [hk _ (by omega) (by omega)]; exact ej j hj
theorem SR.go {V : Vy} {S S' : St} {c : Nat} {R R' pa : Rw} {na nh : Int32} {h1 h2 h3 st : Rw} (h : SR V S c R pa na nh h1 h2 h3 st) (hk : ∀ a, c ≤ a → a ≤ c + 46 → S' a = S a) (hR : rg V R R') : SR V S' c R' pa na nh h1 h2 h3 st := by
  obtain ⟨a1, a2, ⟨n, hh, n4, q1, q2, q3⟩, ⟨m, m8, e4, em, ei⟩, a5⟩ := h
  refine ⟨?_, ?_, ⟨n, hh, n4, q1.go (by rw [hk _ (by omega) (by omega)]) (by rw [hk _ (by omega) (by omega)]) (fun a b1 b2 => hk a (by omega) (by omega)), q2, q3⟩, ⟨m, m8, ?_, em, fun i hi => ?_⟩, fun i hi => ?_⟩
  · rw [hk _ (by omega) (by omega)]; exact a1.tr hR
  · rw [hk _ (by omega) (by omega)]; exact a2
  · rw [hk _ (by omega) (by omega)]; exact e4
  · rw [hk (c + 43) (by omega) (by omega), hk (c + 44) (by omega) (by omega), hk (c + 45) (by omega) (by omega)]; exact ei i hi
  · rw [hk _ (by omega) (by omega)]; exact a5 i hi
/-- the cells that all rests on -/
theorem Rl.go {V : Vy} {v d : Nat} {S S' : St} (h : Rl V v d S) (hc : ∀ a, a < 130 → a ≠ 14 → a ≠ 16 → a ≠ 29 → a ≠ 31 → S' a = S a) (hm : ∀ a, ((142 < a ∧ a < 158) ∨ a = 163 ∨ a = 164 ∨ (172 < a ∧ a < 176) ∨ (179 < a ∧ a < 186)) → S' a = S a) (hr : rg V (mr S') (mr S)) (h142 : ∀ j, (j = 17 ∨ j = 26 ∨ j = 36 ∨ j = 37 ∨ j = 41 ∨ j = 57 ∨ j = 58 ∨ j = 59) → S' 142 j = S 142 j) : Rl V v d S' := by
  obtain ⟨hv, e3, e4, ⟨hC, hM, hX⟩, hS, ⟨k, k7, t1, t2, t3⟩, hf, hz, hI⟩ := h
  refine ⟨hv, by rw [hc 0 (by decide) (by decide) (by decide) (by decide) (by decide)]; exact e3, by rw [hc 0 (by decide) (by decide) (by decide) (by decide) (by decide)]; exact e4, ⟨hC.go (fun a h1 h2 h3 => hc a (by omega) (by omega) (by omega) (by omega) (by omega)), hM.go (fun a ha => hm a (by omega)), hX.go (hc _ (by omega) (by omega) (by omega) (by omega) (by omega)) (hc _ (by omega) (by omega) (by omega) (by omega) (by omega)) (hc _ (by omega) (by omega) (by omega) (by omega) (by omega)) (hc _ (by omega) (by omega) (by omega) (by omega) (by omega)) (hm _ (by omega)) (hm _ (by omega)) (hm _ (by omega)) (hm _ (by omega))⟩, ?_, ⟨k, k7, ?_, ?_, ?_⟩, ?_, ?_, ?_⟩
  · rw [hm 163 (by omega), hm 173 (by omega), hm 174 (by omega), hm 175 (by omega), hm 156 (by omega), h142 36 (by omega), h142 37 (by omega)]
    exact hS.go (fun a h1 h2 => hc a (by omega) (by omega) (by omega) (by omega) (by omega)) hr.sm
  · rw [hc 0 (by decide) (by decide) (by decide) (by decide) (by decide)]; exact t1
  · rw [h142 17 (by omega)]; exact t2
  · rw [hm 157 (by omega), hc 1 (by decide) (by decide) (by decide) (by decide) (by decide)]; exact t3
  · rw [hc 0 (by decide) (by decide) (by decide) (by decide) (by decide), h142 26 (by omega)]; exact hf
  · rw [h142 41 (by omega)]; exact hz
  · unfold Im at hI ⊢
    rw [hm 180 (by omega), hm 181 (by omega), hm 182 (by omega), hm 183 (by omega), hm 184 (by omega), hm 185 (by omega), h142 57 (by omega), h142 58 (by omega), h142 59 (by omega), hc 0 (by decide) (by decide) (by decide) (by decide) (by decide)]
    rcases hI with q | ⟨q1, q2, q3⟩
    · exact Or.inl q
    · exact Or.inr ⟨q1, q2, q3.go (fun a h1 h2 => hc a (by omega) (by omega) (by omega) (by omega) (by omega)) rg.rf⟩
theorem Rl.c {V : Vy} {v d : Nat} {S S' : St} (h : Rl V v d S) (hc : cK S S') : Rl V v d S' := h.go (fun a h1 h2 h3 h4 h5 => hc a (by omega) h2 h3 h4 h5) (fun a ha => hc a (by omega) (by omega) (by omega) (by omega) (by omega)) (by rw [mr_cell (fun a ha => hc a (by omega) (by omega) (by omega) (by omega) (by omega))]; exact rg.rf) (fun j _ => by rw [hc 142 (by decide) (by decide) (by decide) (by decide) (by decide)])
theorem Rl.m {V : Vy} {v d : Nat} {S S' : St} (h : Rl V v d S) (hm : mK S S') : Rl V v d S' := h.go (fun a h1 _ _ _ _ => hm.2.1 a (by omega)) (fun a ha => hm.2.1 a (by omega)) (hm.1.w h.2.2.2.1.1.1) hm.2.2
theorem mK.up {S T : St} (h : mK S T) {a i : Nat} {x : Int32} (ha : a = 186 ∨ (164 < a ∧ a < 173) ∨ (175 < a ∧ a < 180) ∨ (a = 142 ∧ (i = 3 ∨ (17 < i ∧ i < 26) ∨ i = 27 ∨ i = 55 ∨ i = 56))) : mK S (up T a i x) := by
  refine ⟨by rw [mr_up (by omega) (by omega)]; exact h.1, fun b hb => ?_, fun j hj => ?_⟩
  · rw [up_ne (by omega)]; exact h.2.1 b hb
  · rw [up_2, if_neg (by omega)]; exact h.2.2 j hj
/-- a call that class and reference answer alike; what the machine throws for: 1, or n2 -/
def Agr (n2 : Int32) (fc : St → Option TR) (fm : St → Option (Int32 × St)) : Prop := ∀ S, Rel S → ∃ w S1, fc S = some (w, S1) ∧ ∀ x, ∃ b S2, fm (up S1 186 0 x) = some (b, S2) ∧ Rel S2 ∧ (match w with
  | .inl r => S2 142 3 = 0 ∧ b = r
  | .inr n => (n = 1 ∧ S2 142 3 = 1) ∨ (n = 2 ∧ S2 142 3 = n2))
/-- what the class's call gives in a state that only looks on: value or throw -/
abbrev Ans (V : Vy) : Type := Int32 ⊕ Nat
/-- both sides look on, and give the same -/
theorem look {n2 : Int32} {fc : St → Option TR} {fm : St → Option (Int32 × St)}
    (hc : ∀ S V v d, Rl V v d S → ∃ w : Int32 ⊕ Nat, ok (fc S) (fun q => q.1 = w ∧ cK S q.2) ∧ ∀ T, cK S T → ok (fm T) (fun q => mK T q.2 ∧ match w with
      | .inl r => q.2 142 3 = 0 ∧ q.1 = r
      | .inr n => (n = 1 ∧ q.2 142 3 = 1) ∨ (n = 2 ∧ q.2 142 3 = n2))) : Agr n2 fc fm := by
  intro S hS
  obtain ⟨V, v, d, hR⟩ := hS
  obtain ⟨w, ⟨⟨w', S1⟩, e1, q1, q2⟩, hm⟩ := hc S V v d hR
  refine ⟨w, S1, by rw [e1, show w' = w from q1], fun x => ?_⟩
  have k1 : cK S (up S1 186 0 x) := fun a h1 h2 h3 h4 h5 => by rw [up_ne (by omega)]; exact q2 a h1 h2 h3 h4 h5
  obtain ⟨⟨b, S2⟩, e2, m1, m2⟩ := hm _ k1
  exact ⟨b, S2, e2, ⟨V, v, d, (hR.c k1).m m1⟩, m2⟩
