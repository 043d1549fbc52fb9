/-! the class reads an expression: operators that wait, the code so far -/
theorem gdr {α : Type} {L : List α} {x d : α} : (L ++ [x]).getD L.length d = x := by simp [List.getD_eq_getElem?_getD]
theorem gdl {α : Type} {L : List α} {x d : α} {j : Nat} (h : j < L.length) : (L ++ [x]).getD j d = L.getD j d := by rw [List.getD_eq_getElem?_getD, List.getD_eq_getElem?_getD, List.getElem?_append_left h]
def opI (o : Nat) : Int32 := -(nI o)
/-- operators: 2 or, 3 and, 4 not, 5 less, 6 equal, 7 plus, 8 minus, 9 times, 10 divided, 0 a parenthesis -/
def rk (o : Nat) : Nat := if o = 2 then 1 else if o = 3 then 2 else if o = 4 then 3 else if o = 5 ∨ o = 6 then 4 else if o = 7 ∨ o = 8 then 5 else if o = 9 ∨ o = 10 then 6 else 0
def rkf (a0 : Int32) : Int32 := (if a0 = (-10) then 6 else (if a0 = (-9) then 6 else (if a0 = (-8) then 5 else (if a0 = (-7) then 5 else (if a0 = (-6) then 4 else (if a0 = (-5) then 4 else (if a0 = (-4) then 3 else (if a0 = (-3) then 2 else (if a0 = (-2) then 1 else 0)))))))))
theorem rank_s (a : Int32) (S : St) : fX2_rankOf a S = ri (rkf a) S := by simp only [fX2_rankOf, rkf, ri_if]
theorem rk_N : ∀ o, o < 11 → rkf (opI o) = nI (rk o) ∧ rk o ≤ 6 ∧ (1 ≤ rk o → 2 ≤ o) ∧ (opI o = -4 ↔ o = 4) := by decide +kernel
theorem rank_o {o : Nat} (h : o ≤ 10) (S : St) : fX2_rankOf (opI o) S = some (nI (rk o), S) := by rw [rank_s, (rk_N o (by omega)).1]; rfl
/-- atoms of code: a number; 20000 and more: a value; 30000 and more: an operator -/
def aI (x : Nat) : Int32 := if x < 20000 then nI x else if x < 30000 then opI (x - 19980) else opI (x - 30000)
def toC (x : Nat) : List Int32 := if x = 30004 then [0, -6] else [aI x]
def aOk (x : Nat) : Prop := x ≤ 9999 ∨ (20000 ≤ x ∧ x < 20005) ∨ (30002 ≤ x ∧ x ≤ 30010)
def cC (A : List Nat) : List Int32 := A.flatMap toC
theorem cC_snoc {A : List Nat} {x : Nat} : cC (A ++ [x]) = cC A ++ toC x := by unfold cC; rw [List.flatMap_append]; simp
theorem toC_1 {x : Nat} (h : x ≠ 30004) : toC x = [aI x] := by unfold toC; rw [if_neg h]
theorem toC_4 : toC 30004 = [0, -6] := rfl
theorem aI_op {o : Nat} : aI (30000 + o) = opI o := by unfold aI; rw [if_neg (by omega), if_neg (by omega), show 30000 + o - 30000 = o by omega]
theorem opI_v : ∀ j, j < 5 → ¬ opI (20 + j) = -4 ∧ ¬ opI (20 + j) = -1 ∧ opI (20 + j) < 0 := by decide +kernel
theorem aI_ne {x : Nat} (h : aOk x) (h4 : x ≠ 30004) : ¬ aI x = -4 := by
  rcases h with h | h | h
  · unfold aI; rw [if_pos (by omega)]
    intro z
    have : nI x < 0 := by rw [z]; decide
    exact nI_pos (by omega) this
  · obtain ⟨j, rfl⟩ : ∃ j, x = 20000 + j := ⟨x - 20000, by omega⟩
    unfold aI; rw [if_neg (by omega), if_pos (by omega), show 20000 + j - 19980 = 20 + j by omega]
    exact (opI_v j (by omega)).1
  · obtain ⟨j, rfl⟩ : ∃ j, x = 30000 + j := ⟨x - 30000, by omega⟩
    rw [aI_op]
    intro z
    have := (rk_N j (by omega)).2.2.2.mp z
    omega
def Ou (S : St) (cd f : Nat) (L : List Int32) : Prop := ∀ j, j < L.length → S cd (f + j) = L.getD j 0
theorem Ou.snoc {S : St} {cd f : Nat} {L : List Int32} {x : Int32} (h : Ou S cd f L) : Ou (up S cd (f + L.length) x) cd f (L ++ [x]) := by
  intro j hj
  rw [List.length_append] at hj
  have hj' : j < L.length + 1 := hj
  by_cases e : j = L.length
  · rw [e, up_at, gdr]
  · rw [up_off (by omega), gdl (by omega)]; exact h j (by omega)
theorem Ou.go {S S' : St} {cd f : Nat} {L : List Int32} (h : Ou S cd f L) (h1 : S' cd = S cd) : Ou S' cd f L := fun j hj => by rw [h1]; exact h j hj
def Stk (S : St) : List Nat → Prop
  | [] => True
  | x :: r => S 35 r.length = opI x ∧ x ≤ 10 ∧ Stk S r
theorem Stk.go {S S' : St} (h1 : S' 35 = S 35) : ∀ {L : List Nat}, Stk S L → Stk S' L := by
  intro L
  induction L with
  | nil => intro _; trivial
  | cons x r ih => intro h; exact ⟨by rw [h1]; exact h.1, h.2.1, ih h.2.2⟩
theorem Stk.up {S : St} {m : Nat} {y : Int32} : ∀ {L : List Nat}, L.length ≤ m → Stk S L → Stk (up S 35 m y) L := by
  intro L
  induction L with
  | nil => intro _ _; trivial
  | cons x r ih => intro hl h; have hl' : r.length + 1 ≤ m := hl; exact ⟨by rw [up_off (by omega)]; exact h.1, h.2.1, ih (by omega) h.2.2⟩
/-- which rule, and the row of its code -/
def RuI (rid cd : Nat) : Prop := (rid = 13 ∧ cd = 12) ∨ (rid = 15 ∧ cd = 12) ∨ (rid = 28 ∧ cd = 27) ∨ (rid = 30 ∧ cd = 27)
theorem RuI.s {rid cd : Nat} (h : RuI rid cd) : sr rid 1 = cd ∧ ln cd = 701 := by
  rcases h with ⟨rfl, rfl⟩ | ⟨rfl, rfl⟩ | ⟨rfl, rfl⟩ | ⟨rfl, rfl⟩ <;> exact ⟨rfl, rfl⟩
theorem RuI.n {rid cd : Nat} (h : RuI rid cd) : rid ≠ cd ∧ rid < 33 ∧ cd < 33 ∧ 1 < rid ∧ 1 < cd := by unfold RuI at h; omega
theorem C_add1 {rid cd t : Nat} {S : St} {x : Int32} (hI : RuI rid cd) (ht : S rid 3 = nI t) (h7 : t < 700) (hx : ¬ x = -4) : fX3_add rid x S = some (up (up S cd t x) rid 3 (nI (t + 1))) := by
  obtain ⟨s1, s2⟩ := hI.s
  have n1 := hI.n.1
  unfold fX3_add
  rw [ht, if_neg (nI_pos (by omega)), s1, s2, show nI 701 - 1 = nI 700 from rfl, if_neg (nI_ge (by omega) (by omega)), if_neg hx]
  unfold BX3_add_40
  rw [wr_g (by rw [s2]; omega), pf_s, up_ne n1, ht, nI_1, if_neg hx]
theorem C_add2 {rid cd t : Nat} {S : St} (hI : RuI rid cd) (ht : S rid 3 = nI t) (h7 : t < 700) : fX3_add rid (-4) S = some (up (up (up (up S cd t 0) rid 3 (nI (t + 1))) cd (t + 1) (-6)) rid 3 (nI (t + 1 + 1))) := by
  obtain ⟨s1, s2⟩ := hI.s
  have n1 := hI.n.1
  unfold fX3_add
  rw [ht, if_neg (nI_pos (by omega)), s1, s2, show nI 701 - 1 = nI 700 from rfl, if_neg (nI_ge (by omega) (by omega)), if_pos rfl]
  unfold BX3_add_40
  rw [wr_g (by rw [s2]; omega), pf_s, up_ne n1, ht, nI_1, if_pos rfl, s1, up_at, wr_g (by rw [s2]; omega), pf_s, up_ne n1, up_at, nI_1]
/-- the parts that adding and releasing may touch -/
def RS (rid cd f : Nat) (S0 S : St) (stk A : List Nat) : Prop := S 34 2 = nI stk.length ∧ Stk S stk ∧ S rid 3 = nI (f + (cC A).length) ∧ Ou S cd f (cC A) ∧ (∀ a, a ≠ 34 → a ≠ rid → a ≠ cd → S a = S0 a) ∧ (∀ j, j ≠ 2 → S 34 j = S0 34 j) ∧ (∀ j, j ≠ 3 → S rid j = S0 rid j) ∧ ∀ j, j < f → S cd j = S0 cd j
theorem RS.add {rid cd f x : Nat} {S0 S : St} {stk A : List Nat} (hI : RuI rid cd) (h : RS rid cd f S0 S stk A) (hx : aOk x) (h7 : f + (cC A).length < 700) : ∃ S', fX3_add rid (aI x) S = some S' ∧ RS rid cd f S0 S' stk (A ++ [x]) := by
  obtain ⟨h1, h2, h3, h4, h5, h6, h8, h9⟩ := h
  have n := hI.n
  by_cases e : x = 30004
  · subst e
    refine ⟨_, C_add2 hI h3 h7, ?_, ?_, ?_, ?_, fun a q1 q2 q3 => ?_, fun j hj => ?_, fun j hj => ?_, fun j hj => ?_⟩
    · rw [up_ne (by omega), up_ne (by omega), up_ne (by omega), up_ne (by omega)]; exact h1
    · exact Stk.go (by rw [up_ne (by omega), up_ne (by omega), up_ne (by omega), up_ne (by omega)]) h2
    · rw [up_at, cC_snoc, toC_4, List.length_append]; rfl
    · rw [cC_snoc, toC_4, show cC A ++ [0, -6] = (cC A ++ [0]) ++ [-6] by simp]
      have o1 := Ou.go (S' := up (up S cd (f + (cC A).length) 0) rid 3 (nI (f + (cC A).length + 1))) (h4.snoc (x := 0)) (up_ne (fun z => n.1 z.symm))
      have o2 := o1.snoc (x := -6)
      rw [List.length_append] at o2
      exact o2.go (up_ne (fun z => n.1 z.symm))
    · rw [up_ne q2, up_ne q3, up_ne q2, up_ne q3]; exact h5 a q1 q2 q3
    · rw [up_ne (by omega), up_ne (by omega), up_ne (by omega), up_ne (by omega)]; exact h6 j hj
    · rw [up_off hj, up_ne n.1, up_off hj, up_ne n.1]; exact h8 j hj
    · rw [up_ne (fun z => n.1 z.symm), up_off (by omega), up_ne (fun z => n.1 z.symm), up_off (by omega)]; exact h9 j hj
  · refine ⟨_, C_add1 hI h3 h7 (aI_ne hx e), ?_, ?_, ?_, ?_, fun a q1 q2 q3 => ?_, fun j hj => ?_, fun j hj => ?_, fun j hj => ?_⟩
    · rw [up_ne (by omega), up_ne (by omega)]; exact h1
    · exact Stk.go (by rw [up_ne (by omega), up_ne (by omega)]) h2
    · rw [up_at, cC_snoc, toC_1 e, List.length_append]; rfl
    · rw [cC_snoc, toC_1 e]
      exact (h4.snoc (x := aI x)).go (up_ne (fun z => n.1 z.symm))
    · rw [up_ne q2, up_ne q3]; exact h5 a q1 q2 q3
    · rw [up_ne (by omega), up_ne (by omega)]; exact h6 j hj
    · rw [up_off hj, up_ne n.1]; exact h8 j hj
    · rw [up_ne (fun z => n.1 z.symm), up_off (by omega)]; exact h9 j hj
def cost1 (o : Nat) : Nat := if 1 ≤ rk o then (toC (30000 + o)).length else 0
def cost : List Nat → Nat
  | [] => 0
  | x :: r => cost1 x + cost r
def rel (r : Nat) : List Nat → List Nat → List Nat × List Nat
  | [], A => ([], A)
  | x :: t, A => if r ≤ rk x then rel r t (A ++ [30000 + x]) else (x :: t, A)
theorem cost1_N : ∀ o, o < 11 → cost1 o ≤ 2 ∧ (1 ≤ rk o → 1 ≤ cost1 o) := by decide +kernel
theorem rel_cost {r : Nat} (r1 : 1 ≤ r) : ∀ stk A, (cC (rel r stk A).2).length + cost (rel r stk A).1 = (cC A).length + cost stk := by
  intro stk
  induction stk with
  | nil => intro A; rfl
  | cons x t ih =>
    intro A
    show (cC (if r ≤ rk x then rel r t (A ++ [30000 + x]) else (x :: t, A)).2).length + cost (if r ≤ rk x then rel r t (A ++ [30000 + x]) else (x :: t, A)).1 = (cC A).length + (cost1 x + cost t)
    by_cases c : r ≤ rk x
    · rw [if_pos c, ih, cC_snoc, List.length_append]
      unfold cost1
      rw [if_pos (by omega)]
      omega
    · rw [if_neg c]; rfl
theorem rel_len {r : Nat} : ∀ stk A, (rel r stk A).1.length ≤ stk.length := by
  intro stk
  induction stk with
  | nil => intro A; exact Nat.le_refl _
  | cons x t ih =>
    intro A
    show (if r ≤ rk x then rel r t (A ++ [30000 + x]) else (x :: t, A)).1.length ≤ t.length + 1
    split
    · have := ih (A ++ [30000 + x]); omega
    · exact Nat.le_refl _
theorem C_rel {rid cd f r : Nat} {S0 : St} (hI : RuI rid cd) (r1 : 1 ≤ r) (r7 : r ≤ 7) : ∀ (stk A : List Nat) (k : Nat) (S : St), stk.length < k → stk.length ≤ 96 → RS rid cd f S0 S stk A → f + (cC A).length + cost stk ≤ 700 → ok (LX2_release_0 k rid (nI r) S) (fun S' => RS rid cd f S0 S' (rel r stk A).1 (rel r stk A).2) := by
  intro stk
  induction stk with
  | nil =>
    intro A k S hk _ h _
    obtain ⟨k, rfl⟩ : ∃ k', k = k' + 1 := ⟨k - 1, by have : 0 < k := hk; omega⟩
    show ok (KX2_release_0 (LX2_release_0 k) rid (nI r) S) _
    unfold KX2_release_0
    rw [show S 34 2 = 0 from h.1, if_pos (by decide)]
    exact ok_some h
  | cons x t ih =>
    intro A k S hk hl h hb
    have hk' : t.length + 1 < k := hk
    have hl' : t.length + 1 ≤ 96 := hl
    obtain ⟨k, rfl⟩ : ∃ k', k = k' + 1 := ⟨k - 1, by omega⟩
    obtain ⟨e35, x10, ht⟩ := h.2.1
    have rx := rk_N x (by omega)
    show ok (KX2_release_0 (LX2_release_0 k) rid (nI r) S) _
    unfold KX2_release_0
    rw [show S 34 2 = nI (t.length + 1) from h.1, if_neg (show ¬ nI (t.length + 1) ≤ (0 : Int32) from nI_ge (a := 0) (by omega) (by omega)), nI_pred, rd35 (by omega), e35, rank_o x10, bd_s]
    have er : rel r (x :: t) A = if r ≤ rk x then rel r t (A ++ [30000 + x]) else (x :: t, A) := rfl
    by_cases c : r ≤ rk x
    · have hb' : f + (cC A).length + (cost1 x + cost t) ≤ 700 := hb
      have c1 : 1 ≤ cost1 x := (cost1_N x (by omega)).2 (by omega)
      rw [if_neg (nI_nlt c (by omega)), er, if_pos c, pf_s, show S 34 2 = nI (t.length + 1) from h.1, nI_pred]
      generalize hS1 : up S 34 2 (nI t.length) = S1
      have h34 : S1 34 2 = nI t.length := by rw [← hS1, up_at]
      have n := hI.n
      have hR : RS rid cd f S0 S1 t A := by
        obtain ⟨h1, h2, h3, h4, h5, h6, h8, h9⟩ := h
        refine ⟨h34, Stk.go (by rw [← hS1, up_ne (by decide)]) h2.2.2, by rw [← hS1, up_ne (by omega)]; exact h3, h4.go (by rw [← hS1, up_ne (by omega)]), fun a q1 q2 q3 => by rw [← hS1, up_ne q1]; exact h5 a q1 q2 q3, fun j hj => by rw [← hS1, up_off hj]; exact h6 j hj, fun j hj => by rw [← hS1, up_ne (by omega)]; exact h8 j hj, fun j hj => by rw [← hS1, up_ne (by omega)]; exact h9 j hj⟩
      have e35' : S1 35 t.length = aI (30000 + x) := by rw [← hS1, up_ne (by decide), e35, aI_op]
      obtain ⟨S2, e2, r2⟩ := hR.add hI (x := 30000 + x) (by unfold aOk; have := rx.2.2.1; omega) (by omega)
      rw [h34, rd35 (by omega), e35', e2, bv_s]
      refine ih (A ++ [30000 + x]) k S2 (by omega) (by omega) r2 ?_
      have e1 : cost1 x = (toC (30000 + x)).length := by unfold cost1; rw [if_pos (by omega)]
      rw [cC_snoc, List.length_append]
      omega
    · rw [if_pos (nI_lt (by omega) (by omega)), er, if_neg c]
      exact ok_some h
/-! the state between two tokens -/
def CG (rid cd f : Nat) (S0 S : St) (due nm : Bool) (nots a : Nat) (stk A : List Nat) : Prop := S 34 2 = nI stk.length ∧ Stk S stk ∧ S 34 3 = nI a ∧ S 34 4 = nI nots ∧ S 34 5 = b2i due ∧ S 34 6 = b2i nm ∧ S rid 3 = nI (f + (cC A).length) ∧ Ou S cd f (cC A) ∧ (∀ a, a ≠ 33 → a ≠ 34 → a ≠ 35 → a ≠ rid → a ≠ cd → S a = S0 a) ∧ (∀ j, j ≠ 3 → S rid j = S0 rid j) ∧ ∀ j, j < f → S cd j = S0 cd j
section CGs
variable {rid cd f : Nat} {S0 S : St} {due nm : Bool} {nots a : Nat} {stk A : List Nat}
theorem CG.rs (h : CG rid cd f S0 S due nm nots a stk A) : RS rid cd f S S stk A := by
  obtain ⟨h1, h2, h3, h4, h5, h6, h7, h8, -⟩ := h
  exact ⟨h1, h2, h7, h8, fun _ _ _ _ => rfl, fun _ _ => rfl, fun _ _ => rfl, fun _ _ => rfl⟩
theorem CG.of {S' : St} {stk' A' : List Nat} (hI : RuI rid cd) (h : CG rid cd f S0 S due nm nots a stk A) (r : RS rid cd f S S' stk' A') : CG rid cd f S0 S' due nm nots a stk' A' := by
  obtain ⟨-, -, h3, h4, h5, h6, -, -, h9, h10, h11⟩ := h
  obtain ⟨r1, r2, r3, r4, r5, r6, r7, r8⟩ := r
  exact ⟨r1, r2, by rw [r6 3 (by decide)]; exact h3, by rw [r6 4 (by decide)]; exact h4, by rw [r6 5 (by decide)]; exact h5, by rw [r6 6 (by decide)]; exact h6, r3, r4, fun b q1 q2 q3 q4 q5 => by rw [r5 b q2 q4 q5]; exact h9 b q1 q2 q3 q4 q5, fun j hj => by rw [r7 j hj]; exact h10 j hj, fun j hj => by rw [r8 j hj]; exact h11 j hj⟩
theorem CG.rel {r : Nat} (hI : RuI rid cd) (h : CG rid cd f S0 S due nm nots a stk A) (r1 : 1 ≤ r) (r7 : r ≤ 7) (hl : stk.length ≤ 96) (hb : f + (cC A).length + cost stk ≤ 700) : ∃ S', fX2_release rid (nI r) S = some S' ∧ CG rid cd f S0 S' due nm nots a (rel r stk A).1 (rel r stk A).2 ∧ S' 33 = S 33 := by
  have n := hI.n
  obtain ⟨S', e, r⟩ := C_rel hI r1 r7 stk A FU S (by unfold FU; omega) hl h.rs hb
  exact ⟨S', e, h.of hI r, r.2.2.2.2.1 33 (by decide) (by omega) (by omega)⟩
theorem CG.add {x : Nat} (hI : RuI rid cd) (h : CG rid cd f S0 S due nm nots a stk A) (hx : aOk x) (h7 : f + (cC A).length < 700) : ∃ S', fX3_add rid (aI x) S = some S' ∧ CG rid cd f S0 S' due nm nots a stk (A ++ [x]) ∧ S' 33 = S 33 := by
  have n := hI.n
  obtain ⟨S', e, r⟩ := h.rs.add hI hx h7
  exact ⟨S', e, h.of hI r, r.2.2.2.2.1 33 (by decide) (by omega) (by omega)⟩
theorem CG.hold {o : Nat} (hI : RuI rid cd) (h : CG rid cd f S0 S due nm nots a stk A) (hl : stk.length < 96) (ho : o ≤ 10) : ∃ S', fX2_hold (opI o) S = some S' ∧ CG rid cd f S0 S' due nm nots a (o :: stk) A ∧ S' 33 = S 33 := by
  have n := hI.n
  obtain ⟨h1, h2, h3, h4, h5, h6, h7, h8, h9, h10, h11⟩ := h
  refine ⟨up (up S 35 stk.length (opI o)) 34 2 (nI (stk.length + 1)), ?_, ⟨?_, ⟨?_, ho, ?_⟩, ?_, ?_, ?_, ?_, ?_, ?_, fun b q1 q2 q3 q4 q5 => ?_, fun j hj => ?_, fun j hj => ?_⟩, ?_⟩
  · unfold fX2_hold
    rw [h1, if_neg (show ¬ (96 : Int32) ≤ _ from nI_ge (b := 96) hl (by decide)), wr35 hl, pf_s, up_ne (by decide), h1, nI_1]
  · rw [up_at]; rfl
  · rw [up_ne (by decide), up_at]
  · exact Stk.go (up_ne (by decide)) (Stk.up (Nat.le_refl _) h2)
  · rw [up_off (by decide), up_ne (by decide)]; exact h3
  · rw [up_off (by decide), up_ne (by decide)]; exact h4
  · rw [up_off (by decide), up_ne (by decide)]; exact h5
  · rw [up_off (by decide), up_ne (by decide)]; exact h6
  · rw [up_ne (by omega), up_ne (by omega)]; exact h7
  · exact h8.go (by rw [up_ne (by omega), up_ne (by omega)])
  · rw [up_ne q2, up_ne q3]; exact h9 b q1 q2 q3 q4 q5
  · rw [up_ne (by omega), up_ne (by omega)]; exact h10 j hj
  · rw [up_ne (by omega), up_ne (by omega)]; exact h11 j hj
  · rw [up_ne (by decide), up_ne (by decide)]
/-- slots of cell 34 but the number that waits -/
theorem CG.set {S' : St} {due' nm' : Bool} {nots' a' : Nat} (hI : RuI rid cd) (h : CG rid cd f S0 S due nm nots a stk A) (hs : ∀ b, b ≠ 34 → S' b = S b) (e2 : S' 34 2 = S 34 2) (e3 : S' 34 3 = nI a') (e4 : S' 34 4 = nI nots') (e5 : S' 34 5 = b2i due') (e6 : S' 34 6 = b2i nm') : CG rid cd f S0 S' due' nm' nots' a' stk A := by
  have n := hI.n
  obtain ⟨h1, h2, h3, h4, h5, h6, h7, h8, h9, h10, h11⟩ := h
  exact ⟨by rw [e2]; exact h1, Stk.go (hs 35 (by decide)) h2, e3, e4, e5, e6, by rw [hs rid (by omega)]; exact h7, h8.go (hs cd (by omega)), fun b q1 q2 q3 q4 q5 => by rw [hs b q2]; exact h9 b q1 q2 q3 q4 q5, fun j hj => by rw [hs rid (by omega)]; exact h10 j hj, fun j hj => by rw [hs cd (by omega)]; exact h11 j hj⟩
theorem CG.expect (hI : RuI rid cd) (h : CG rid cd f S0 S due nm nots a stk A) (b : Bool) : ∃ S', fX2_expectPart (b2i b) S = some S' ∧ CG rid cd f S0 S' true b 0 a stk A ∧ S' 33 = S 33 := by
  refine ⟨up (up (up S 34 5 1) 34 6 (b2i b)) 34 4 0, ?_, ?_, ?_⟩
  · unfold fX2_expectPart
    rw [pz_1]
    cases b
    · rw [b2i_f, pz_0, pf_s]
    · rw [b2i_t, pz_1, pf_s]
  · refine h.set hI (fun c hc => by rw [up_ne hc, up_ne hc, up_ne hc]) ?_ ?_ ?_ ?_ ?_
    · rw [up_off (by decide), up_off (by decide), up_off (by decide)]
    · rw [up_off (by decide), up_off (by decide), up_off (by decide)]; exact h.2.2.1
    · rw [up_at]; rfl
    · rw [up_off (by decide), up_off (by decide), up_at]; rfl
    · rw [up_off (by decide), up_at]
  · rw [up_ne (by decide), up_ne (by decide), up_ne (by decide)]
theorem CG.mv {S' : St} (hI : RuI rid cd) (h : CG rid cd f S0 S due nm nots a stk A) (hs : ∀ b, b ≠ 33 → S' b = S b) : CG rid cd f S0 S' due nm nots a stk A := by
  have n := hI.n
  obtain ⟨h1, h2, h3, h4, h5, h6, h7, h8, h9, h10, h11⟩ := h
  have e34 := hs 34 (by decide)
  exact ⟨by rw [e34]; exact h1, Stk.go (hs 35 (by decide)) h2, by rw [e34]; exact h3, by rw [e34]; exact h4, by rw [e34]; exact h5, by rw [e34]; exact h6, by rw [hs rid (by omega)]; exact h7, h8.go (hs cd (by omega)), fun b q1 q2 q3 q4 q5 => by rw [hs b q1]; exact h9 b q1 q2 q3 q4 q5, fun j hj => by rw [hs rid (by omega)]; exact h10 j hj, fun j hj => by rw [hs cd (by omega)]; exact h11 j hj⟩
end CGs
def CF (B : Nat → Nat) (n rid cd f : Nat) (S0 S : St) (due nm : Bool) (nots a : Nat) (stk A : List Nat) (p : Nat) : Prop := CG rid cd f S0 S due nm nots a stk A ∧ CT B n S p ∧ p ≤ n ∧ f + (cC A).length + cost stk ≤ tS B n p
theorem CG.adv {B : Nat → Nat} {n rid cd f : Nat} {S0 S : St} {due nm : Bool} {nots a p : Nat} {stk A : List Nat} (hI : RuI rid cd) (hT : TC B n S0) (h : CG rid cd f S0 S due nm nots a stk A) (hC : CT B n S p) (hp : p ≤ n) (hb : f + (cC A).length + cost stk ≤ tE B n p) : ∃ S', fX7_advance S = some S' ∧ CF B n rid cd f S0 S' due nm nots a stk A (tE B n p) := by
  have nn := hI.n
  have hT1 : TC B n S := hT.go (h.2.2.2.2.2.2.2.2.1 1 (by decide) (by decide) (by decide) (by omega) (by omega))
  obtain ⟨S', e, c1, c2⟩ := C_adv hT1 hC.1 hC.2.1 (tE_le (B := B) hp)
  exact ⟨S', e, h.mv hI c2, c1, tE_le hp, Nat.le_trans hb tS_ge⟩
/-! one turn of the loop -/
theorem C_turn {rid i k : Nat} {sg : Int32} {S S1 S2 : St} (hi : i ≤ 700) (h : (S 34 5 = 0 ∧ fX2_readBehindPart rid S = some (0, S1)) ∨ (¬ S 34 5 = 0 ∧ fX2_readPart rid sg S = some (0, S1))) (ha : fX7_advance S1 = some S2) : LX2_read_26 (k + 1) rid sg 0 (nI i) S = LX2_read_26 k rid sg 0 (nI (i + 1)) S2 := by
  show KX2_read_26 (LX2_read_26 k) rid sg 0 (nI i) S = _
  unfold KX2_read_26
  rw [if_neg (show ¬ (700 : Int32) < _ from nI_nlt (a := 700) hi (by decide)), if_pos rfl]
  rcases h with ⟨h1, h2⟩ | ⟨h1, h2⟩
  · rw [if_pos h1, h2, bd_s]
    unfold BX2_read_60 BX2_read_74
    rw [if_pos rfl, ha, bv_s, vl_s, nI_1]
  · rw [if_neg h1, h2, bd_s]
    unfold BX2_read_60 BX2_read_74
    rw [if_pos rfl, ha, bv_s, vl_s, nI_1]
theorem C_stop {rid i k : Nat} {sg c : Int32} {S S1 : St} (hi : i ≤ 700) (hc : ¬ c = 0) (h : (S 34 5 = 0 ∧ fX2_readBehindPart rid S = some (c, S1)) ∨ (¬ S 34 5 = 0 ∧ fX2_readPart rid sg S = some (c, S1))) : LX2_read_26 (k + 2) rid sg 0 (nI i) S = BX2_read_80 rid c S1 := by
  have last : LX2_read_26 (k + 1) rid sg c (nI (i + 1)) S1 = BX2_read_80 rid c S1 := by
    show KX2_read_26 (LX2_read_26 k) rid sg c (nI (i + 1)) S1 = _
    unfold KX2_read_26
    split
    · rfl
    · first | rfl | rw [if_neg hc]
  show KX2_read_26 (LX2_read_26 (k + 1)) rid sg 0 (nI i) S = _
  unfold KX2_read_26
  rw [if_neg (show ¬ (700 : Int32) < _ from nI_nlt (a := 700) hi (by decide)), if_pos rfl]
  rcases h with ⟨h1, h2⟩ | ⟨h1, h2⟩
  · rw [if_pos h1, h2, bd_s]
    unfold BX2_read_60 BX2_read_74
    rw [if_neg hc, vl_s, nI_1, last]
  · rw [if_neg h1, h2, bd_s]
    unfold BX2_read_60 BX2_read_74
    rw [if_neg hc, vl_s, nI_1, last]
