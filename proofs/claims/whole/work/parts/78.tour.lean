/-! ways through sets of fields -/
def cst (D : Nat → Nat → Nat) : Nat → List Nat → Nat
  | _, [] => 0
  | a, x :: l => D a x + cst D x l
def lst : Nat → List Nat → Nat
  | a, [] => a
  | _, x :: l => lst x l
theorem cst_app {D : Nat → Nat → Nat} : ∀ (l m : List Nat) (a : Nat), cst D a (l ++ m) = cst D a l + cst D (lst a l) m := by
  intro l
  induction l with
  | nil => intro m a; show cst D a m = 0 + cst D a m; rw [Nat.zero_add]
  | cons x l ih => intro m a; show D a x + cst D x (l ++ m) = (D a x + cst D x l) + cst D (lst x l) m; rw [ih, Nat.add_assoc]
theorem lst_app : ∀ (l m : List Nat) (a : Nat), lst a (l ++ m) = lst (lst a l) m := by
  intro l
  induction l with
  | nil => intro m a; rfl
  | cons x l ih => intro m a; exact ih m x
theorem lst_mem : ∀ (l : List Nat) (a : Nat), l ≠ [] → lst a l ∈ l := by
  intro l
  induction l with
  | nil => intro a h; exact absurd rfl h
  | cons x l ih =>
    intro a _
    cases l with
    | nil => exact List.mem_cons_self
    | cons y l => exact List.mem_cons_of_mem _ (ih x (by intro h; cases h))
theorem snoc : ∀ (l : List Nat) (a : Nat), l ≠ [] → ∃ l', l = l' ++ [lst a l] := by
  intro l
  induction l with
  | nil => intro a h; exact absurd rfl h
  | cons x l ih =>
    intro a _
    cases l with
    | nil => exact ⟨[], rfl⟩
    | cons y l =>
      obtain ⟨l', e⟩ := ih x (by intro h; cases h)
      exact ⟨x :: l', by show x :: (y :: l) = x :: (l' ++ [lst x (y :: l)]); rw [← e]⟩
def cyc (D : Nat → Nat → Nat) (p : List Nat) : Nat := match p with
  | [] => 0
  | x :: l => cst D x (l ++ [x])
theorem cyc_rot {D : Nat → Nat → Nat} {A B : List Nat} {y : Nat} : cyc D (A ++ y :: B) = cyc D (y :: (B ++ A)) := by
  cases A with
  | nil => show cst D y (B ++ [y]) = cst D y ((B ++ []) ++ [y]); rw [List.append_nil]
  | cons x A =>
    show cst D x ((A ++ y :: B) ++ [x]) = cst D y ((B ++ x :: A) ++ [y])
    rw [show (A ++ y :: B) ++ [x] = (A ++ [y]) ++ (B ++ [x]) by simp, show (B ++ x :: A) ++ [y] = (B ++ [x]) ++ (A ++ [y]) by simp, cst_app, cst_app (B ++ [x]), lst_app, lst_app B]
    show cst D x (A ++ [y]) + cst D y (B ++ [x]) = cst D y (B ++ [x]) + cst D x (A ++ [y])
    rw [Nat.add_comm]
theorem rot_nd {A B : List Nat} {y : Nat} (h : (A ++ y :: B).Nodup) : (y :: (B ++ A)).Nodup := (List.Perm.nodup_iff (show A ++ y :: B |>.Perm (y :: (B ++ A)) from List.perm_append_comm)).mp h
theorem rot_mem {A B : List Nat} {x y : Nat} : x ∈ A ++ y :: B ↔ x ∈ y :: (B ++ A) := List.Perm.mem_iff (show A ++ y :: B |>.Perm (y :: (B ++ A)) from List.perm_append_comm)
/-- from a through all of a set, the last one k -/
def PT (D : Nat → Nat → Nat) (a X k c : Nat) : Prop := ∃ l : List Nat, l.Nodup ∧ (∀ x, x ∈ l ↔ X.testBit x = true) ∧ l ≠ [] ∧ lst a l = k ∧ cst D a l = c
/-- from 0 through all others of a set -/
def P0 (D : Nat → Nat → Nat) (X k c : Nat) : Prop := ∃ l : List Nat, l.Nodup ∧ (∀ x, x ∈ l ↔ (X.testBit x = true ∧ x ≠ 0)) ∧ lst 0 l = k ∧ cst D 0 l = c
theorem tb_x {X k x : Nat} : (X ^^^ 2 ^ k).testBit x = (X.testBit x ^^ decide (k = x)) := by rw [Nat.testBit_xor, Nat.testBit_two_pow]
theorem PT_ext {D : Nat → Nat → Nat} {a X q k c : Nat} (hk : X.testBit k = true) (h : PT D a (X ^^^ 2 ^ k) q c) : PT D a X k (c + D q k) := by
  obtain ⟨l, h1, h2, h3, h4, h5⟩ := h
  have hn : k ∉ l := fun hm => by have := (h2 k).mp hm; rw [tb_x, hk] at this; simp at this
  refine ⟨l ++ [k], ?_, fun x => ?_, by simp, by rw [lst_app]; rfl, ?_⟩
  · rw [List.nodup_append]
    refine ⟨h1, by simp, fun a ha b hb => ?_⟩
    have : b = k := by simpa using hb
    rw [this]; intro e; rw [e] at ha; exact hn ha
  · rw [List.mem_append, h2 x, tb_x]
    by_cases c : k = x
    · subst c; simp [hk]
    · simp [c, show ¬ x = k from fun z => c z.symm]
  · rw [cst_app, h5, h4]; rfl
theorem PT_pred {D : Nat → Nat → Nat} {a X k c : Nat} (h : PT D a X k c) : X.testBit k = true ∧ ((X = 2 ^ k ∧ c = D a k) ∨ ∃ q c', PT D a (X ^^^ 2 ^ k) q c' ∧ X.testBit q = true ∧ q ≠ k ∧ c = c' + D q k) := by
  obtain ⟨l, h1, h2, h3, h4, h5⟩ := h
  have hkm : k ∈ l := by rw [← h4]; exact lst_mem l a h3
  have hk := (h2 k).mp hkm
  refine ⟨hk, ?_⟩
  obtain ⟨l', e⟩ := snoc l a h3
  rw [h4] at e
  subst e
  rw [List.nodup_append] at h1
  obtain ⟨n1, -, n3⟩ := h1
  have hn : k ∉ l' := fun hm => n3 k hm k (by simp) rfl
  have hset : ∀ x, x ∈ l' ↔ (X ^^^ 2 ^ k).testBit x = true := by
    intro x
    have := h2 x
    rw [List.mem_append] at this
    rw [tb_x]
    by_cases c : k = x
    · subst c; rw [hk]; simp [hn]
    · rw [decide_eq_false c, Bool.xor_false, ← this]
      constructor
      · exact Or.inl
      · rintro (h | h)
        · exact h
        · exact absurd (by simpa using h : x = k).symm c
  rw [cst_app] at h5
  by_cases hl : l' = []
  · subst hl
    refine Or.inl ⟨?_, ?_⟩
    · apply Nat.eq_of_testBit_eq
      intro x
      rw [Nat.testBit_two_pow]
      have := h2 x
      by_cases c : k = x
      · subst c; rw [hk]; simp
      · rw [decide_eq_false c]
        cases hx : X.testBit x with
        | false => rfl
        | true => exact absurd (by simpa using this.mpr hx : x = k).symm c
    · rw [← h5]; show 0 + (D a k + 0) = D a k; omega
  · have hq := lst_mem l' a hl
    refine Or.inr ⟨lst a l', cst D a l', ⟨l', n1, hset, hl, rfl, rfl⟩, (h2 _).mp (List.mem_append_left _ hq), fun e => hn (by rw [← e]; exact hq), ?_⟩
    have e1 : cst D (lst a l') [k] = D (lst a l') k + 0 := rfl
    omega
theorem P0_ext {D : Nat → Nat → Nat} {X q k c : Nat} (hk : X.testBit k = true) (k0 : k ≠ 0) (h : P0 D (X ^^^ 2 ^ k) q c) : P0 D X k (c + D q k) := by
  obtain ⟨l, h1, h2, h4, h5⟩ := h
  have hn : k ∉ l := fun hm => by have := ((h2 k).mp hm).1; rw [tb_x, hk] at this; simp at this
  refine ⟨l ++ [k], ?_, fun x => ?_, by rw [lst_app]; rfl, ?_⟩
  · rw [List.nodup_append]
    refine ⟨h1, by simp, fun a ha b hb => ?_⟩
    have : b = k := by simpa using hb
    rw [this]; intro e; rw [e] at ha; exact hn ha
  · rw [List.mem_append, h2 x, tb_x]
    by_cases c : k = x
    · subst c; simp [hk, k0]
    · simp [c, show ¬ x = k from fun z => c z.symm]
  · rw [cst_app, h5, h4]; rfl
theorem P0_pred {D : Nat → Nat → Nat} {X k c : Nat} (ho : X.testBit 0 = true) (h : P0 D X k c) : (X = 1 ∧ k = 0 ∧ c = 0) ∨ (X.testBit k = true ∧ k ≠ 0 ∧ ∃ q c', P0 D (X ^^^ 2 ^ k) q c' ∧ X.testBit q = true ∧ q ≠ k ∧ c = c' + D q k) := by
  obtain ⟨l, h1, h2, h4, h5⟩ := h
  by_cases hl0 : l = []
  · subst hl0
    refine Or.inl ⟨?_, h4.symm, h5.symm⟩
    apply Nat.eq_of_testBit_eq
    intro x
    rw [show (1 : Nat) = 2 ^ 0 from rfl, Nat.testBit_two_pow]
    by_cases c : x = 0
    · subst c; rw [ho]; rfl
    · rw [decide_eq_false (show ¬ 0 = x from fun z => c z.symm)]
      cases hx : X.testBit x with
      | false => rfl
      | true => exact absurd ((h2 x).mpr ⟨hx, c⟩) (by simp)
  · have hkm : k ∈ l := by rw [← h4]; exact lst_mem l 0 hl0
    obtain ⟨hk, k0⟩ := (h2 k).mp hkm
    refine Or.inr ⟨hk, k0, ?_⟩
    obtain ⟨l', e⟩ := snoc l 0 hl0
    rw [h4] at e
    subst e
    rw [List.nodup_append] at h1
    obtain ⟨n1, -, n3⟩ := h1
    have hn : k ∉ l' := fun hm => n3 k hm k (by simp) rfl
    have hset : ∀ x, x ∈ l' ↔ ((X ^^^ 2 ^ k).testBit x = true ∧ x ≠ 0) := by
      intro x
      have := h2 x
      rw [List.mem_append] at this
      rw [tb_x]
      by_cases c : k = x
      · subst c; rw [hk]; simp [hn]
      · rw [decide_eq_false c, Bool.xor_false, ← this]
        constructor
        · exact Or.inl
        · rintro (h | h)
          · exact h
          · exact absurd (by simpa using h : x = k).symm c
    rw [cst_app] at h5
    have hq : X.testBit (lst 0 l') = true ∧ lst 0 l' ≠ k := by
      by_cases hl : l' = []
      · subst hl; exact ⟨ho, fun e => k0 e.symm⟩
      · have hq := lst_mem l' 0 hl
        exact ⟨((h2 _).mp (List.mem_append_left _ hq)).1, fun e => hn (by rw [← e]; exact hq)⟩
    refine ⟨lst 0 l', cst D 0 l', ⟨l', n1, hset, rfl, rfl⟩, hq.1, hq.2, ?_⟩
    have e1 : cst D (lst 0 l') [k] = D (lst 0 l') k + 0 := rfl
    omega
theorem tb_all {F x : Nat} : (2 ^ F - 1).testBit x = true ↔ x < F := by rw [Nat.testBit_two_pow_sub_one]; simp
/-- a round of the class is one of the reference -/
theorem tour_a {D : Nat → Nat → Nat} {F f k c : Nat} (hf : f < F) (d0 : D f f = 0) (h : P0 D (2 ^ F - 1) k c) : ∃ q c', PT D f (2 ^ F - 1) q c' ∧ q < F ∧ c' + D q f = c + D k 0 := by
  obtain ⟨l, h1, h2, h4, h5⟩ := h
  have nd : (0 :: l).Nodup := List.nodup_cons.mpr ⟨fun hm => ((h2 0).mp hm).2 rfl, h1⟩
  have mem : ∀ x, x ∈ 0 :: l ↔ x < F := by
    intro x
    rw [List.mem_cons, h2 x, tb_all]
    omega
  have ecy : cyc D (0 :: l) = c + D k 0 := by
    show cst D 0 (l ++ [0]) = _
    rw [cst_app, h5, h4]; rfl
  obtain ⟨A, B, e⟩ := List.append_of_mem ((mem f).mpr hf)
  rw [e] at nd ecy mem
  rw [cyc_rot] at ecy
  have ecy' : cst D f ((B ++ A) ++ [f]) = c + D k 0 := ecy
  rw [cst_app] at ecy'
  have mem' : ∀ x, x ∈ f :: (B ++ A) ↔ x < F := fun x => by rw [← rot_mem]; exact mem x
  refine ⟨lst f (B ++ A), cst D f (B ++ A), ⟨f :: (B ++ A), rot_nd nd, fun x => by rw [mem' x, tb_all], by simp, rfl, ?_⟩, ?_, ecy'⟩
  · show D f f + cst D f (B ++ A) = _
    rw [d0, Nat.zero_add]
  · by_cases hl : B ++ A = []
    · rw [hl]; exact hf
    · exact (mem' _).mp (List.mem_cons_of_mem _ (lst_mem _ f hl))
/-- a round of the reference: one of the class is no longer -/
theorem tour_b {D : Nat → Nat → Nat} {F f k c : Nat} (hf : f < F) (tri : ∀ a b c, a < F → b < F → c < F → D a c ≤ D a b + D b c) (h : PT D f (2 ^ F - 1) k c) : ∃ q c', P0 D (2 ^ F - 1) q c' ∧ q < F ∧ c' + D q 0 ≤ c + D k f := by
  obtain ⟨m, h1, h2, h3, h4, h5⟩ := h
  have mem : ∀ x, x ∈ m ↔ x < F := fun x => by rw [h2 x, tb_all]
  have kF : k < F := by rw [← h4]; exact (mem _).mp (lst_mem m f h3)
  cases m with
  | nil => exact absurd rfl h3
  | cons x m' =>
    have hx : x < F := (mem x).mp List.mem_cons_self
    have e5 : D f x + cst D x m' = c := h5
    have e4 : lst x m' = k := h4
    have t := tri k f x kF hf hx
    have ecy : cyc D (x :: m') ≤ c + D k f := by
      show cst D x (m' ++ [x]) ≤ _
      rw [cst_app, e4]
      show cst D x m' + (D k x + 0) ≤ _
      omega
    obtain ⟨A, B, e⟩ := List.append_of_mem ((mem 0).mpr (by omega))
    rw [e] at h1 ecy mem
    rw [cyc_rot] at ecy
    have ecy' : cst D 0 ((B ++ A) ++ [0]) ≤ c + D k f := ecy
    rw [cst_app] at ecy'
    have mem' : ∀ x, x ∈ 0 :: (B ++ A) ↔ x < F := fun x => by rw [← rot_mem]; exact mem x
    have nd := List.nodup_cons.mp (rot_nd h1)
    refine ⟨lst 0 (B ++ A), cst D 0 (B ++ A), ⟨B ++ A, nd.2, fun y => ?_, rfl, rfl⟩, ?_, ecy'⟩
    · rw [tb_all, ← mem' y, List.mem_cons]
      constructor
      · intro hy; exact ⟨Or.inr hy, fun z => nd.1 (z ▸ hy)⟩
      · rintro ⟨hy | hy, h0⟩
        · exact absurd hy h0
        · exact hy
    · by_cases hl : B ++ A = []
      · rw [hl]; show 0 < F; omega
      · exact (mem' _).mp (List.mem_cons_of_mem _ (lst_mem _ 0 hl))
