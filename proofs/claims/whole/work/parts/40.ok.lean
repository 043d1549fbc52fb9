/-! the logic of the functions -/
def ok {β : Type} (x : Option β) (Q : β → Prop) : Prop := ∃ b, x = some b ∧ Q b
theorem ok_mono {β : Type} {x : Option β} {P Q : β → Prop} (h : ok x P) (hq : ∀ b, P b → Q b) : ok x Q := by
  obtain ⟨b, h1, h2⟩ := h
  exact ⟨b, h1, hq b h2⟩
theorem ok_some {β : Type} {b : β} {Q : β → Prop} (h : Q b) : ok (some b) Q := ⟨b, rfl, h⟩
theorem ok_ri {v : Int32} {S : St} {Q : Int32 × St → Prop} (h : Q (v, S)) : ok (ri v S) Q := ⟨_, rfl, h⟩
theorem ok_rz {v : Int32} {S : St} {Q : Int32 × St → Prop} (hv : v = 0 ∨ v = 1) (h : Q (v, S)) : ok (rz v S) Q := ⟨_, by unfold rz; rw [if_pos hv], h⟩
theorem ok_tri {v : Int32} {S : St} {Q : TR → Prop} (h : Q (.inl v, S)) : ok (tri v S) Q := ⟨_, rfl, h⟩
theorem ok_trz {v : Int32} {S : St} {Q : TR → Prop} (hv : v = 0 ∨ v = 1) (h : Q (.inl v, S)) : ok (trz v S) Q := ⟨_, by unfold trz; rw [if_pos hv], h⟩
theorem ok_trx {en : Nat} {S : St} {Q : TR → Prop} (h : Q (.inr en, S)) : ok (trx en S) Q := ⟨_, rfl, h⟩
theorem ok_vl {β : Type} {x : Int32} {k : Int32 → Option β} {Q : β → Prop} (h : ok (k x) Q) : ok (vl x k) Q := h
theorem ok_pf {β : Type} {S : St} {a i : Nat} {v : Int32} {k : St → Option β} {Q : β → Prop} (h : ok (k (up S a i v)) Q) : ok (pf S a i v k) Q := h
theorem ok_pz {β : Type} {S : St} {a i : Nat} {v : Int32} {k : St → Option β} {Q : β → Prop} (hv : v = 0 ∨ v = 1) (h : ok (k (up S a i v)) Q) : ok (pz S a i v k) Q := by
  unfold pz; rw [if_pos hv]; exact h
theorem ln_lt (a : Nat) : ln a < 5000 := by
  unfold ln
  rw [List.getD_eq_getElem?_getD]
  cases h : lnL[a]? with
  | none => decide
  | some n =>
    have : ∀ n ∈ lnL, n < 5000 := by decide +kernel
    exact this n (List.mem_of_getElem? h)
theorem ok_rd {β : Type} {S : St} {a : Nat} {i : Int32} (n : Nat) {k : Int32 → Option β} {Q : β → Prop} (hi : i = nI n) (hn : n < ln a) (h : ok (k (S a n)) Q) : ok (rd S a i k) Q := by
  have h5 := ln_lt a
  subst hi
  unfold rd
  rw [nI_clamp (by omega), if_neg (by rintro (q | q); exact nI_pos (by omega) q; omega)]
  exact h
theorem ok_wr {β : Type} {S : St} {a : Nat} {i v : Int32} (n : Nat) {k : St → Option β} {Q : β → Prop} (hi : i = nI n) (hn : n < ln a) (h : ok (k (up S a n v)) Q) : ok (wr S a i v k) Q := by
  have h5 := ln_lt a
  subst hi
  unfold wr
  rw [nI_clamp (by omega), if_neg (by rintro (q | q); exact nI_pos (by omega) q; omega)]
  exact h
theorem ok_wb {β : Type} {S : St} {a : Nat} {i v : Int32} (n : Nat) {k : St → Option β} {Q : β → Prop} (hi : i = nI n) (hn : n < ln a) (h : ok (k (up S a n v.toInt8.toInt32)) Q) : ok (wb S a i v k) Q := by
  have h5 := ln_lt a
  subst hi
  unfold wb
  rw [nI_clamp (by omega), if_neg (by rintro (q | q); exact nI_pos (by omega) q; omega)]
  exact h
theorem ok_rr {β : Type} {a : Nat} {i : Int32} (n : Nat) {k : Nat → Option β} {Q : β → Prop} (hi : i = nI n) (hn : n < ln a) (h : ok (k (a + 1 + n)) Q) : ok (rr a i k) Q := by
  have h5 := ln_lt a
  subst hi
  unfold rr
  rw [nI_clamp (by omega), if_neg (by rintro (q | q); exact nI_pos (by omega) q; omega)]
  exact h
theorem ok_rt {β : Type} {a : Nat} {i : Int32} (n : Nat) {k : Nat → Option β} {Q : β → Prop} (hi : i = nI n) (hn : n < ln a) (h : ok (k (stn a n)) Q) : ok (rt a i k) Q := by
  have h5 := ln_lt a
  subst hi
  unfold rt
  rw [nI_clamp (by omega), if_neg (by rintro (q | q); exact nI_pos (by omega) q; omega)]
  exact h
theorem ok_gm {β : Type} {S : St} {a i c : Nat} (q : Nat) {k : Nat → Option β} {Q : β → Prop} (hs : S a i = nI q) (hq : kd q = c) (hc : c < 99) (h : ok (k q) Q) : ok (gm S a i c k) Q := by
  have hl := kd_lt hq hc
  have hN : NC < 2 ^ 31 := by decide
  have hx : ix (S a i) = q := by rw [hs]; exact nI_clamp (by omega)
  unfold gm
  rw [hx, if_pos hq]
  exact h
theorem ok_bd {β : Type} {x : Option (Int32 × St)} {k : Int32 → St → Option β} {Q : β → Prop} {P : Int32 × St → Prop} (hx : ok x P) (h : ∀ r S, P (r, S) → ok (k r S) Q) : ok (bd x k) Q := by
  obtain ⟨b, h1, h2⟩ := hx
  subst h1
  exact h b.1 b.2 h2
theorem ok_bv {β : Type} {x : Option St} {k : St → Option β} {Q : β → Prop} {P : St → Prop} (hx : ok x P) (h : ∀ S, P S → ok (k S) Q) : ok (bv x k) Q := by
  obtain ⟨b, h1, h2⟩ := hx
  subst h1
  exact h b h2
theorem ok_bt {x : Option TR} {k : Int32 → St → Option TR} {Q : TR → Prop} {P : TR → Prop} (hx : ok x P) (h : ∀ r S, P (.inl r, S) → ok (k r S) Q) (h2 : ∀ en S, P (.inr en, S) → Q (.inr en, S)) : ok (bt x k) Q := by
  obtain ⟨⟨w, S⟩, h1, h3⟩ := hx
  subst h1
  cases w with
  | inl r => exact h r S h3
  | inr en => exact ⟨_, rfl, h2 en S h3⟩
theorem ok_if {β : Type} {c : Prop} [Decidable c] {x y : Option β} {Q : β → Prop} (ht : c → ok x Q) (hf : ¬ c → ok y Q) : ok (if c then x else y) Q := by
  by_cases h : c
  · rw [if_pos h]; exact ht h
  · rw [if_neg h]; exact hf h
theorem ok_t {β : Type} {c : Prop} [Decidable c] {x y : Option β} {Q : β → Prop} (h : c) (hx : ok x Q) : ok (if c then x else y) Q := by rw [if_pos h]; exact hx
theorem ok_f {β : Type} {c : Prop} [Decidable c] {x y : Option β} {Q : β → Prop} (h : ¬ c) (hx : ok y Q) : ok (if c then x else y) Q := by rw [if_neg h]; exact hx
theorem ok_rem {β : Type} {x y : Int32} (a b : Nat) {k : Int32 → Option β} {Q : β → Prop} (hx : x = nI a) (hy : y = nI b) (ha : a < 2 ^ 31) (hb0 : 0 < b) (hb : b < 2 ^ 31) (h : ok (k (nI (a % b))) Q) : ok (rm' x y k) Q := by
  subst hx; subst hy
  unfold rm'
  rw [if_neg (nI_ne0 hb0 hb), pk_rem ha hb0 hb]
  exact h
theorem ok_div {β : Type} {x y : Int32} (a b : Nat) {k : Int32 → Option β} {Q : β → Prop} (hx : x = nI a) (hy : y = nI b) (ha : a < 2 ^ 31) (hb0 : 0 < b) (hb : b < 2 ^ 31) (h : ok (k (nI (a / b))) Q) : ok (dv x y k) Q := by
  subst hx; subst hy
  unfold dv
  rw [if_neg (nI_ne0 hb0 hb), pk_div ha hb0 hb]
  exact h
theorem ok_ac {β : Type} {S : St} {a0 a : Nat} {sp dp n : Int32} (i j m : Nat) {k : St → Option β} {Q : β → Prop} (h1 : sp = nI i) (h2 : dp = nI j) (h3 : n = nI m) (h4 : i + m ≤ ln a0) (h5 : j + m ≤ ln a) (h : ok (k (cpy S a0 i a j m)) Q) : ok (ac S a0 sp a dp n k) Q := by
  have l0 := ln_lt a0
  have l1 := ln_lt a
  subst h1; subst h2; subst h3
  unfold ac
  rw [nI_clamp (by omega), nI_clamp (by omega), nI_clamp (by omega), if_neg]
  · exact h
  · rintro (q | q | q | q | q)
    · exact nI_pos (by omega) q
    · exact nI_pos (by omega) q
    · exact nI_pos (by omega) q
    · omega
    · omega
/-! reading behind writing -/
theorem up_ne {S : St} {a i : Nat} {v : Int32} {b : Nat} (h : b ≠ a) : up S a i v b = S b := by unfold up; rw [if_neg h]
theorem up_at {S : St} {a i : Nat} {v : Int32} : up S a i v a i = v := by unfold up upd; rw [if_pos rfl, if_pos rfl]
theorem up_row {S : St} {a i : Nat} {v : Int32} : up S a i v a = upd (S a) i v := by unfold up; rw [if_pos rfl]
theorem up_off {S : St} {a i j : Nat} {v : Int32} (h : j ≠ i) : up S a i v a j = S a j := by unfold up upd; rw [if_pos rfl, if_neg h]
theorem cpy_ne {S : St} {a0 sp a dp n b : Nat} (h : b ≠ a) : cpy S a0 sp a dp n b = S b := by unfold cpy; rw [if_neg h]
theorem cpy_row {S : St} {a0 sp a dp n : Nat} : cpy S a0 sp a dp n a = va_cpy (S a0) (S a) sp dp n := by unfold cpy; rw [if_pos rfl]
/-! loops: at each turn the counter is one more -/
theorem ok_for {β σ : Type} (L : Nat → Nat → σ → Option β) (Q : β → Prop) (I : Nat → σ → Prop) (N : Nat)
    (hend : ∀ n s, I N s → ok (L (n + 1) N s) Q) (hstep : ∀ n i s, i < N → I i s → (∀ s', I (i + 1) s' → ok (L n (i + 1) s') Q) → ok (L (n + 1) i s) Q) :
    ∀ n i s, i ≤ N → N - i < n → I i s → ok (L n i s) Q := by
  intro n
  induction n with
  | zero => intro i s _ h; omega
  | succ n ih =>
    intro i s hi hn hI
    rcases Nat.lt_or_ge i N with h | h
    · exact hstep n i s h hI (fun s' hs' => ih (i + 1) s' (by omega) (by omega) hs')
    · have : i = N := by omega
      subst this
      exact hend n s hI
theorem FU_lt {n : Nat} (h : n < 5000) : n < FU := h
theorem ln1 : ln 1 = 700 := rfl
theorem ln3 : ln 3 = 8 := rfl
theorem ln4 : ln 4 = 8 := rfl
theorem ln5 : ln 5 = 48 := rfl
theorem ln6 : ln 6 = 8 := rfl
theorem ln7 : ln 7 = 64 := rfl
theorem ln8 : ln 8 = 6 := rfl
theorem ln9 : ln 9 = 36 := rfl
theorem ln10 : ln 10 = 6 := rfl
theorem ln11 : ln 11 = 8 := rfl
theorem ln12 : ln 12 = 701 := rfl
theorem ln14 : ln 14 = 40 := rfl
theorem ln16 : ln 16 = 40 := rfl
theorem ln18 : ln 18 = 8 := rfl
theorem ln19 : ln 19 = 8 := rfl
theorem ln20 : ln 20 = 48 := rfl
theorem ln21 : ln 21 = 8 := rfl
theorem ln22 : ln 22 = 64 := rfl
theorem ln23 : ln 23 = 6 := rfl
theorem ln24 : ln 24 = 36 := rfl
theorem ln25 : ln 25 = 6 := rfl
theorem ln26 : ln 26 = 8 := rfl
theorem ln27 : ln 27 = 701 := rfl
theorem ln29 : ln 29 = 40 := rfl
theorem ln31 : ln 31 = 40 := rfl
theorem ln35 : ln 35 = 96 := rfl
theorem ln37 : ln 37 = 106 := rfl
theorem ln38 : ln 38 = 40 := rfl
theorem ln39 : ln 39 = 106 := rfl
theorem ln40 : ln 40 = 106 := rfl
theorem ln41 : ln 41 = 106 := rfl
theorem ln42 : ln 42 = 106 := rfl
theorem ln43 : ln 43 = 106 := rfl
theorem ln44 : ln 44 = 106 := rfl
theorem ln45 : ln 45 = 106 := rfl
theorem ln46 : ln 46 = 106 := rfl
theorem ln47 : ln 47 = 106 := rfl
theorem ln48 : ln 48 = 106 := rfl
theorem ln49 : ln 49 = 106 := rfl
theorem ln50 : ln 50 = 106 := rfl
theorem ln51 : ln 51 = 106 := rfl
theorem ln52 : ln 52 = 106 := rfl
theorem ln53 : ln 53 = 106 := rfl
theorem ln54 : ln 54 = 106 := rfl
theorem ln55 : ln 55 = 106 := rfl
theorem ln56 : ln 56 = 106 := rfl
theorem ln57 : ln 57 = 106 := rfl
theorem ln58 : ln 58 = 106 := rfl
theorem ln59 : ln 59 = 106 := rfl
theorem ln60 : ln 60 = 106 := rfl
theorem ln61 : ln 61 = 106 := rfl
theorem ln62 : ln 62 = 106 := rfl
theorem ln63 : ln 63 = 106 := rfl
theorem ln64 : ln 64 = 106 := rfl
theorem ln65 : ln 65 = 106 := rfl
theorem ln66 : ln 66 = 106 := rfl
theorem ln67 : ln 67 = 106 := rfl
theorem ln68 : ln 68 = 106 := rfl
theorem ln69 : ln 69 = 106 := rfl
theorem ln70 : ln 70 = 106 := rfl
theorem ln71 : ln 71 = 106 := rfl
theorem ln72 : ln 72 = 106 := rfl
theorem ln73 : ln 73 = 106 := rfl
theorem ln74 : ln 74 = 106 := rfl
theorem ln75 : ln 75 = 106 := rfl
theorem ln76 : ln 76 = 106 := rfl
theorem ln77 : ln 77 = 106 := rfl
theorem ln78 : ln 78 = 106 := rfl
theorem ln79 : ln 79 = 8 := rfl
theorem ln80 : ln 80 = 8 := rfl
theorem ln81 : ln 81 = 8 := rfl
theorem ln82 : ln 82 = 3 := rfl
theorem ln84 : ln 84 = 106 := rfl
theorem ln85 : ln 85 = 40 := rfl
theorem ln86 : ln 86 = 106 := rfl
theorem ln87 : ln 87 = 106 := rfl
theorem ln88 : ln 88 = 106 := rfl
theorem ln89 : ln 89 = 106 := rfl
theorem ln90 : ln 90 = 106 := rfl
theorem ln91 : ln 91 = 106 := rfl
theorem ln92 : ln 92 = 106 := rfl
theorem ln93 : ln 93 = 106 := rfl
theorem ln94 : ln 94 = 106 := rfl
theorem ln95 : ln 95 = 106 := rfl
theorem ln96 : ln 96 = 106 := rfl
theorem ln97 : ln 97 = 106 := rfl
theorem ln98 : ln 98 = 106 := rfl
theorem ln99 : ln 99 = 106 := rfl
theorem ln100 : ln 100 = 106 := rfl
theorem ln101 : ln 101 = 106 := rfl
theorem ln102 : ln 102 = 106 := rfl
theorem ln103 : ln 103 = 106 := rfl
theorem ln104 : ln 104 = 106 := rfl
theorem ln105 : ln 105 = 106 := rfl
theorem ln106 : ln 106 = 106 := rfl
theorem ln107 : ln 107 = 106 := rfl
theorem ln108 : ln 108 = 106 := rfl
theorem ln109 : ln 109 = 106 := rfl
theorem ln110 : ln 110 = 106 := rfl
theorem ln111 : ln 111 = 106 := rfl
theorem ln112 : ln 112 = 106 := rfl
theorem ln113 : ln 113 = 106 := rfl
theorem ln114 : ln 114 = 106 := rfl
theorem ln115 : ln 115 = 106 := rfl
theorem ln116 : ln 116 = 106 := rfl
theorem ln117 : ln 117 = 106 := rfl
theorem ln118 : ln 118 = 106 := rfl
theorem ln119 : ln 119 = 106 := rfl
theorem ln120 : ln 120 = 106 := rfl
theorem ln121 : ln 121 = 106 := rfl
theorem ln122 : ln 122 = 106 := rfl
theorem ln123 : ln 123 = 106 := rfl
theorem ln124 : ln 124 = 106 := rfl
theorem ln125 : ln 125 = 106 := rfl
theorem ln126 : ln 126 = 8 := rfl
theorem ln127 : ln 127 = 8 := rfl
theorem ln128 : ln 128 = 8 := rfl
theorem ln129 : ln 129 = 3 := rfl
theorem ln131 : ln 131 = 106 := rfl
theorem ln132 : ln 132 = 6 := rfl
theorem ln133 : ln 133 = 6 := rfl
theorem ln134 : ln 134 = 6 := rfl
theorem ln135 : ln 135 = 8 := rfl
theorem ln136 : ln 136 = 5 := rfl
theorem ln138 : ln 138 = 8 := rfl
theorem ln139 : ln 139 = 8 := rfl
theorem ln141 : ln 141 = 2048 := rfl
theorem ln143 : ln 143 = 5 := rfl
theorem ln144 : ln 144 = 5 := rfl
theorem ln145 : ln 145 = 10 := rfl
theorem ln146 : ln 146 = 16 := rfl
theorem ln147 : ln 147 = 16 := rfl
theorem ln148 : ln 148 = 96 := rfl
theorem ln149 : ln 149 = 128 := rfl
theorem ln150 : ln 150 = 72 := rfl
theorem ln151 : ln 151 = 12 := rfl
theorem ln152 : ln 152 = 12 := rfl
theorem ln153 : ln 153 = 16 := rfl
theorem ln154 : ln 154 = 1400 := rfl
theorem ln155 : ln 155 = 1400 := rfl
theorem ln156 : ln 156 = 3 := rfl
theorem ln157 : ln 157 = 700 := rfl
theorem ln158 : ln 158 = 6 := rfl
theorem ln159 : ln 159 = 6 := rfl
theorem ln160 : ln 160 = 48 := rfl
theorem ln161 : ln 161 = 36 := rfl
theorem ln162 : ln 162 = 8 := rfl
theorem ln163 : ln 163 = 4240 := rfl
theorem ln164 : ln 164 = 64 := rfl
theorem ln165 : ln 165 = 5 := rfl
theorem ln166 : ln 166 = 64 := rfl
theorem ln167 : ln 167 = 6 := rfl
theorem ln168 : ln 168 = 6 := rfl
theorem ln169 : ln 169 = 106 := rfl
theorem ln170 : ln 170 = 7 := rfl
theorem ln171 : ln 171 = 2048 := rfl
theorem ln172 : ln 172 = 4 := rfl
theorem ln173 : ln 173 = 8 := rfl
theorem ln174 : ln 174 = 8 := rfl
theorem ln175 : ln 175 = 8 := rfl
theorem ln176 : ln 176 = 106 := rfl
theorem ln177 : ln 177 = 8 := rfl
theorem ln178 : ln 178 = 288 := rfl
theorem ln179 : ln 179 = 2304 := rfl
theorem ln180 : ln 180 = 106 := rfl
theorem ln181 : ln 181 = 4240 := rfl
theorem ln182 : ln 182 = 8 := rfl
theorem ln183 : ln 183 = 8 := rfl
theorem ln184 : ln 184 = 8 := rfl
theorem ln185 : ln 185 = 3 := rfl
theorem ln186 : ln 186 = 1 := rfl
