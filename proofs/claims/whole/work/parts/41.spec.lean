/-! what a valley is, and what an hour does to a row of 106 numbers: 0 the hour, 1 trespasses, 2.. known, 8.. purses, 14.. earth, 62.. ways, 98.. owners -/
abbrev Rw : Type := Nat → Int32
abbrev Gf : Type := Rw → Int32
abbrev Vy : Type := (Nat × Nat) × (Nat → Nat) × (Nat → Nat → Bool) × (Nat → Nat → Int32) × (Nat → Int32) × (Nat → Int32) × (Option Gf) × (Option Gf)
abbrev vF (V : Vy) : Nat := V.1.1
abbrev vS' (V : Vy) : Nat := V.1.2
abbrev vW (V : Vy) : Nat → Nat := V.2.1
abbrev vN (V : Vy) : Nat → Nat → Bool := V.2.2.1
abbrev vD (V : Vy) : Nat → Nat → Int32 := V.2.2.2.1
abbrev vA (V : Vy) : Nat → Int32 := V.2.2.2.2.1
abbrev vT (V : Vy) : Nat → Int32 := V.2.2.2.2.2.1
abbrev vG (V : Vy) : Option Gf := V.2.2.2.2.2.2.1
abbrev vH (V : Vy) : Option Gf := V.2.2.2.2.2.2.2
def bit (x : Int32) (t : Int32) : Bool := decide (¬ ((x >>> (t &&& 31)) &&& 1) = 0)
def pw (t : Int32) : Int32 := (1 : Int32) <<< (t &&& 31)
/-- how many bits: for sets of at most eight -/
def pop (k : Nat) : Nat := k % 2 + k / 2 % 2 + k / 4 % 2 + k / 8 % 2 + k / 16 % 2 + k / 32 % 2 + k / 64 % 2 + k / 128 % 2
def popI (x : Int32) : Int32 := nI (pop x.toNatClampNeg)
def fmod (x : Int32) (n : Nat) : Int32 := if x - x / nI n * nI n < 0 then x - x / nI n * nI n + nI n else x - x / nI n * nI n
def pl (V : Vy) (r : Rw) (s : Nat) : Int32 := r (62 + s * 6 + (r 0).toNatClampNeg % vW V s)
def plN (V : Vy) (r : Rw) (s : Nat) : Nat := (pl V r s).toNatClampNeg
def row5 (a b c d e : Int32) : Rw := fun i => if i = 0 then a else if i = 1 then b else if i = 2 then c else if i = 3 then d else e
def tuA (V : Vy) (r : Rw) (s : Nat) : Int32 := match vG V with
  | none => pl V r s
  | some g => fmod (g (row5 (r 0) (nI s) (pl V r s) (popI (r (2 + s))) (r (8 + s)))) (vF V)
def tuI (V : Vy) (r : Rw) (s : Nat) : Int32 := if bit (r (2 + s)) (tuA V r s) then tuA V r s else -1
/-- who hears what is sung in the field a, but one -/
def hears (V : Vy) (r : Rw) (a : Nat) (but : Int32) (q : Nat) : Bool := decide (¬ nI q = but) && vN V a (plN V r q)
def cnt (p : Nat → Bool) : Nat → Nat
  | 0 => 0
  | n + 1 => cnt p n + if p n then 1 else 0
def hearN (V : Vy) (r : Rw) (a : Nat) (but : Int32) : Nat := cnt (hears V r a but) (vS' V)
def spr (V : Vy) (r : Rw) (a : Nat) (but t : Int32) : Rw := fun i => if 2 ≤ i ∧ i < 2 + vS' V ∧ hears V r a but (i - 2) = true then r i ||| pw t else r i
def tre (V : Vy) (r : Rw) (s : Nat) (t : Nat) : Bool := decide (¬ nI t = pl V r s) && decide (r (14 + s * 8 + t) = 0) && decide (¬ r (98 + t) = -1) && decide (¬ r (98 + t) = nI s)
def clp (x : Int32) : Int32 := if 0 < (if x < 99 then x else 99) then (if x < 99 then x else 99) else 0
def fin (V : Vy) (r : Rw) (s t : Nat) (hn : Nat) : Int32 := clp (match vH V with
  | none => vD V (plN V r s) t
  | some g => g (row5 (vD V (plN V r s) t) (vA V t) (vT V t) (nI hn) (r (8 + s))))
def lo9 (x : Int32) : Int32 := if -9999 < x then x else -9999
def hi9 (x : Int32) : Int32 := if x < 9999 then x else 9999
/-- who pays: the purses, the trespasses -/
def pay (r : Rw) (s o : Nat) (f : Int32) : Rw := upd (upd (upd r (8 + s) (lo9 (r (8 + s) - f))) (8 + o) (hi9 (upd r (8 + s) (lo9 (r (8 + s) - f)) (8 + o) + f))) 1 (r 1 + 1)
def ownN (r : Rw) (t : Nat) : Nat := (r (98 + t)).toNatClampNeg
/-- one singer sings the tune t -/
def snT (V : Vy) (r : Rw) (s t : Nat) : Rw :=
  spr V (if tre V r s t then pay r s (ownN r t) (fin V r s t (hearN V r (plN V r s) (nI s))) else if nI t = pl V r s then r else if r (14 + s * 8 + t) ≤ 0 then r else upd r (14 + s * 8 + t) (r (14 + s * 8 + t) - 1)) (plN V r s) (nI s) (nI t)
def sn (V : Vy) (r : Rw) (s : Nat) : Rw := if tuI V r s = -1 then r else snT V r s (tuI V r s).toNatClampNeg
/-- the row when the singers 0 .. s - 1 have sung -/
def sns (V : Vy) (r : Rw) : Nat → Rw
  | 0 => r
  | s + 1 => sn V (sns V r s) s
def hr1 (V : Vy) (r : Rw) : Rw := upd (sns V r (vS' V)) 0 (sns V r (vS' V) 0 + 1)
def hrs (V : Vy) (r : Rw) : Nat → Rw
  | 0 => r
  | n + 1 => hr1 V (hrs V r n)
/-- what each sings in the hour that r begins; whom each treads on -/
def sgI (V : Vy) (r : Rw) (s : Nat) : Int32 := tuI V (sns V r s) s
def trI (V : Vy) (r : Rw) (s : Nat) : Int32 := if sgI V r s = -1 then -1 else if tre V (sns V r s) s (sgI V r s).toNatClampNeg then sgI V r s else -1
/-- a good valley, a good row -/
def VOk (V : Vy) : Prop := vF V ≤ 8 ∧ vS' V ≤ 6 ∧ (∀ s, s < vS' V → 0 < vW V s ∧ vW V s ≤ 6) ∧ (0 < vS' V → 0 < vF V) ∧ (∀ a b, a < vF V → b < vF V → ∃ d, d < 10000 ∧ vD V a b = nI d) ∧ (∀ a, vN V a a = true)
def ROk (V : Vy) (hm : Nat) (r : Rw) : Prop := (∃ h, h < hm ∧ r 0 = nI h) ∧ (∀ s, s < vS' V → ∃ k, k < 2 ^ vF V ∧ r (2 + s) = nI k) ∧ (∀ s, s < vS' V → -9999 ≤ (r (8 + s)).toInt ∧ (r (8 + s)).toInt ≤ 9999) ∧
  (∀ s t, s < vS' V → t < vF V → ∃ e, e ≤ 99 ∧ r (14 + s * 8 + t) = nI e) ∧ (∀ s i, s < vS' V → i < vW V s → ∃ f, f < vF V ∧ r (62 + s * 6 + i) = nI f) ∧ (∀ t, t < vF V → r (98 + t) = -1 ∨ ∃ o, o < vS' V ∧ r (98 + t) = nI o)
/-! numbers of places -/
theorem ix_e (s t : Nat) : (14 + nI s * 8) + nI t = nI (14 + s * 8 + t) := by
  rw [show (8 : Int32) = nI 8 from rfl, pk_mul, show (14 : Int32) = nI 14 from rfl, nI_add, nI_add]
theorem ix_w (s i : Nat) : (62 + nI s * 6) + nI i = nI (62 + s * 6 + i) := by
  rw [show (6 : Int32) = nI 6 from rfl, pk_mul, show (62 : Int32) = nI 62 from rfl, nI_add, nI_add]
theorem ix_8 (a b : Nat) : nI a * 8 + nI b = nI (a * 8 + b) := by rw [show (8 : Int32) = nI 8 from rfl, pk_mul, nI_add]
theorem ix_8' (a b : Nat) : 8 * nI a + nI b = nI (a * 8 + b) := by rw [show (8 : Int32) = nI 8 from rfl, pk_mul, nI_add, Nat.mul_comm]
theorem ix_6' (a b : Nat) : 6 * nI a + nI b = nI (a * 6 + b) := by rw [show (6 : Int32) = nI 6 from rfl, pk_mul, nI_add, Nat.mul_comm]
theorem row_at {S : St} {a : Nat} {f : Rw} : row S a f a = f := by unfold row; rw [if_pos rfl]
theorem row_ne {S : St} {a b : Nat} {f : Rw} (h : b ≠ a) : row S a f b = S b := by unfold row; rw [if_neg h]
theorem row_row {S : St} {a : Nat} {f g : Rw} : row (row S a f) a g = row S a g := by
  funext b; unfold row; split <;> rfl
theorem row_self {S : St} {a : Nat} : row S a (S a) = S := by
  funext b; unfold row; split
  · subst_vars; rfl
  · rfl
theorem up_eq {S : St} {a i : Nat} {v : Int32} : up S a i v = row S a (upd (S a) i v) := rfl
theorem cpy_eq {S : St} {a0 sp a dp n : Nat} : cpy S a0 sp a dp n = row S a (va_cpy (S a0) (S a) sp dp n) := rfl
theorem nI_nlt0 {n : Nat} (h : n < 2 ^ 31) : ¬ nI n < 0 := nI_pos h
theorem nI_ne_m1 {n : Nat} (h : n < 2 ^ 31) : ¬ nI n = -1 := fun e => by
  have := congrArg Int32.toInt e
  rw [nI_toInt h] at this
  have h1 : ((-1 : Int32)).toInt = -1 := by decide
  omega
theorem upd_at {f : Rw} {i : Nat} {x : Int32} : upd f i x i = x := by unfold upd; rw [if_pos rfl]
theorem upd_ne {f : Rw} {i j : Nat} {x : Int32} (h : j ≠ i) : upd f i x j = f j := by unfold upd; rw [if_neg h]
/-! bits of small sets -/
theorem bit_N : ∀ k, k < 256 → ∀ t, t < 8 → bit (nI k) (nI t) = k.testBit t := by decide +kernel
theorem pw_N : ∀ t, t < 8 → pw (nI t) = nI (2 ^ t) := by decide +kernel
theorem bit_1 (x t : Int32) : ((x >>> (t &&& 31)) &&& 1) = 0 ∨ ((x >>> (t &&& 31)) &&& 1) = 1 := by
  generalize x >>> (t &&& 31) = z
  obtain ⟨j, hj, h⟩ := pk_andE z (m := 1) 1 (by decide)
  rw [h]
  have : j = 0 ∨ j = 1 := by omega
  rcases this with rfl | rfl
  · exact Or.inl rfl
  · exact Or.inr rfl
theorem bit_f {x t : Int32} (h : ((x >>> (t &&& 31)) &&& 1) = 0) : bit x t = false := by unfold bit; simp [h]
theorem bit_t {x t : Int32} (h : ¬ ((x >>> (t &&& 31)) &&& 1) = 0) : bit x t = true := by unfold bit; simp [h]
theorem bit_iff {x t : Int32} : ((x >>> (t &&& 31)) &&& 1) = 0 ↔ bit x t = false := by
  constructor
  · exact bit_f
  · intro h
    by_cases q : ((x >>> (t &&& 31)) &&& 1) = 0
    · exact q
    · rw [bit_t q] at h; cases h
theorem bit_iff1 {x t : Int32} : ((x >>> (t &&& 31)) &&& 1) = 1 ↔ bit x t = true := by
  rcases bit_1 x t with h | h
  · rw [bit_f h, h]; decide
  · rw [bit_t (by rw [h]; decide), h]; decide
theorem or_N (a b : Nat) : nI a ||| nI b = nI (a ||| b) := by
  unfold nI
  apply Int32.toBitVec_inj.mp
  simp
