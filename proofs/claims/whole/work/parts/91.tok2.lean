/-! words -/
theorem str_N : ∀ q, q < 18 → sLen.getD q 0 = (wsN q).length ∧ (wsN q).length ≤ 30 ∧ ∀ i, i < (wsN q).length → (sByt.getD q []).getD i 0 = nI ((wsN q).getD i 0) ∧ (wsN q).getD i 0 < 128 := by decide +kernel
theorem sl_s {β : Type} {q : Nat} {k : Int32 → Option β} (hq : q < 18) : sl q k = k (nI (wsN q).length) := by
  unfold sl
  rw [if_pos (show q < NS from Nat.lt_trans hq (by decide)), (str_N q hq).1]
theorem sh_s {β : Type} {q i : Nat} {k : Int32 → Option β} (hq : q < 18) (hi : i < (wsN q).length) : sh q (nI i) k = k (nI ((wsN q).getD i 0)) := by
  have h30 := (str_N q hq).2.1
  unfold sh
  rw [nI_clamp (by omega), if_pos ⟨show q < NS from Nat.lt_trans hq (by decide), by rintro (z | z); exact nI_pos (by omega) z; rw [(str_N q hq).1] at z; omega⟩, ((str_N q hq).2.2 i hi).1]
theorem rm_eq {f : Nat → Nat} {L : List Nat} : (List.range L.length).map f = L ↔ ∀ j, j < L.length → f j = L.getD j 0 := by
  constructor
  · intro h j hj
    have e : ((List.range L.length).map f).getD j 0 = f j := by
      rw [List.getD_eq_getElem?_getD, List.getElem?_map, List.getElem?_range hj]; rfl
    rw [← e, h]
  · intro h
    apply List.ext_getElem?
    intro i
    rcases Nat.lt_or_ge i L.length with c | c
    · rw [List.getElem?_map, List.getElem?_range c, List.getElem?_eq_getElem c]
      show some (f i) = some L[i]
      rw [h i c, List.getD_eq_getElem?_getD, List.getElem?_eq_getElem c]; rfl
    · rw [List.getElem?_eq_none (by rw [List.length_map, List.length_range]; exact c), List.getElem?_eq_none c]
theorem tW_eq {B : Nat → Nat} {n p : Nat} {L : List Nat} (h : tE B n p - tS B n p = L.length) : tW B n p = L ↔ ∀ j, j < L.length → B (tS B n p + j) = L.getD j 0 := by
  unfold tW; rw [h]; exact rm_eq
theorem tW_ne {B : Nat → Nat} {n p : Nat} {L : List Nat} (h : tE B n p - tS B n p ≠ L.length) : tW B n p ≠ L := by
  intro e
  have := congrArg List.length e
  unfold tW at this
  rw [List.length_map, List.length_range] at this
  exact h this
theorem b2i_t : b2i true = 1 := rfl
theorem b2i_f : b2i false = 0 := rfl
theorem rz_b {b : Bool} {S : St} : rz (b2i b) S = some (b2i b, S) := by cases b <;> rfl
theorem b2i_0 {b : Bool} : (b2i b = 0) ↔ b = false := by cases b <;> decide
theorem C_is {B : Nat → Nat} {n p : Nat} {S : St} (hT : TC B n S) (hC : CT B n S p) (hp : p ≤ n) {q : Nat} (hq : q < 18) : fX7_is q S = some (b2i (wd B n q p), S) := by
  have hn := hT.1
  have hB := hT.B
  have hE := tE_le (B := B) hp
  have hg := tE_ge (B := B) (n := n) (p := p)
  have h30 := (str_N q hq).2.1
  have k61 := tK_le (B := B) (n := n) (p := p) hB
  unfold fX7_is
  rw [hC.2.2.1]
  by_cases c : tK B n p = 1
  · rw [if_pos (by rw [c]; rfl), sl_s hq, hC.2.1, hC.2.2.2.1, pk_sub hg]
    by_cases c2 : tE B n p - tS B n p = (wsN q).length
    · rw [if_pos (by rw [c2])]
      have key : ∀ k i, (wsN q).length - i < k → i ≤ (wsN q).length → (∀ j, j < i → B (tS B n p + j) = (wsN q).getD j 0) → LX7_is_28 k q (nI i) S = some (b2i (wd B n q p), S) := by
        intro k
        induction k with
        | zero => intro i h; omega
        | succ k ih =>
          intro i hk hi hm
          show KX7_is_28 (LX7_is_28 k) q (nI i) S = _
          unfold KX7_is_28
          rw [sl_s hq]
          by_cases c3 : (wsN q).length ≤ i
          · rw [if_pos (nI_le c3 (by omega))]
            have : wd B n q p = true := by
              unfold wd
              rw [decide_eq_true c, decide_eq_true ((tW_eq c2).mpr (fun j hj => hm j (by omega)))]; rfl
            rw [this]; rfl
          · have hin : tS B n p + i < n := by omega
            rw [if_neg (nI_ge (by omega) (by omega)), hC.1, hC.2.2.2.1, nI_add, if_neg (nI_ge (by omega) (by omega)), rd_g (by rw [ln1]; omega), (hT.2 _ hin).2, sh_s hq (by omega)]
            have cc := ((str_N q hq).2.2 i (by omega)).2
            by_cases c4 : B (tS B n p + i) = (wsN q).getD i 0
            · rw [if_pos ((sb_eq (hB _ hin) cc).mpr c4), vl_s, nI_1]
              refine ih (i + 1) (by omega) (by omega) (fun j hj => ?_)
              by_cases e : j = i
              · rw [e]; exact c4
              · exact hm j (by omega)
            · rw [if_neg (fun z => c4 ((sb_eq (hB _ hin) cc).mp z))]
              have : wd B n q p = false := by
                unfold wd
                rw [decide_eq_false (fun z => c4 ((tW_eq c2).mp z i (by omega))), Bool.and_false]
              rw [this]; rfl
      exact key FU 0 (by unfold FU; omega) (by omega) (fun j hj => absurd hj (by omega))
    · rw [if_neg (by rw [nI_eq (by omega) (by omega)]; exact c2)]
      have : wd B n q p = false := by
        unfold wd
        rw [decide_eq_false (tW_ne c2), Bool.and_false]
      rw [this]; rfl
  · rw [if_neg (by rw [show (1 : Int32) = nI 1 from rfl, nI_eq (by omega) (by omega)]; exact c)]
    have : wd B n q p = false := by
      unfold wd
      rw [decide_eq_false c]; rfl
    rw [this]; rfl
/-- a number of more than four digits -/
def tL (B : Nat → Nat) (n p : Nat) : Bool := decide (tK B n p = 2) && decide (4 < tE B n p - tS B n p)
theorem C_tooLong {B : Nat → Nat} {n p : Nat} {S : St} (hT : TC B n S) (hC : CT B n S p) (hp : p ≤ n) : fX7_isTooLong S = some (b2i (tL B n p), S) := by
  have hn := hT.1
  have hE := tE_le (B := B) hp
  have hg := tE_ge (B := B) (n := n) (p := p)
  have k61 := tK_le (B := B) (n := n) (p := p) hT.B
  unfold fX7_isTooLong tL
  rw [hC.2.2.1]
  by_cases c : tK B n p = 2
  · rw [if_pos (by rw [c]; rfl), hC.2.1, hC.2.2.2.1, pk_sub hg, decide_eq_true c]
    by_cases c2 : tE B n p - tS B n p ≤ 4
    · rw [if_pos (show _ ≤ (4 : Int32) from nI_le c2 (by decide)), decide_eq_false (by omega)]; rfl
    · rw [if_neg (show ¬ _ ≤ (4 : Int32) from nI_ge (a := 4) (by omega) (by omega)), decide_eq_true (by omega)]; rfl
  · rw [if_neg (by rw [show (2 : Int32) = nI 2 from rfl, nI_eq (by omega) (by omega)]; exact c), decide_eq_false c]; rfl
/-! the reference's tokens -/
def TM (B : Nat → Nat) (n : Nat) (S : St) : Prop := n ≤ 700 ∧ ∀ i, i < n → B i < 256 ∧ S 157 i = nI (B i)
def mkT (k : Nat) : Nat := if k = 3 then 4 else if 3 < k then 3 else k
def MT (B : Nat → Nat) (n : Nat) (S : St) (p : Nat) : Prop := S 142 19 = nI n ∧ S 142 18 = nI (tE B n p) ∧ S 142 20 = nI (mkT (tK B n p)) ∧ S 142 22 = nI (tS B n p) ∧ S 142 23 = nI (tE B n p) ∧ (tK B n p = 2 → tE B n p - tS B n p ≤ 4 → S 142 21 = nI (tN B n p)) ∧ S 142 24 = 0
theorem TM.B {B : Nat → Nat} {n : Nat} {S : St} (h : TM B n S) : ∀ i, i < n → B i < 256 := fun i hi => (h.2 i hi).1
theorem TM.go {B : Nat → Nat} {n : Nat} {S S' : St} (h : TM B n S) (h1 : S' 157 = S 157) : TM B n S' := ⟨h.1, fun i hi => by rw [h1]; exact h.2 i hi⟩
theorem MT.go {B : Nat → Nat} {n p : Nat} {S S' : St} (h : MT B n S p) (h1 : ∀ j, 18 ≤ j → j ≤ 24 → S' 142 j = S 142 j) : MT B n S' p := by
  unfold MT at h ⊢
  rw [h1 19 (by decide) (by decide), h1 18 (by decide) (by decide), h1 20 (by decide) (by decide), h1 22 (by decide) (by decide), h1 23 (by decide) (by decide), h1 21 (by decide) (by decide), h1 24 (by decide) (by decide)]
  exact h
/-- what going on to the next token may touch -/
def sFr (S S' : St) : Prop := (∀ a, a ≠ 142 → S' a = S a) ∧ ∀ j, j ≠ 18 → j ≠ 20 → j ≠ 21 → j ≠ 22 → j ≠ 23 → S' 142 j = S 142 j
theorem sFr.rf {S : St} : sFr S S := ⟨fun _ _ => rfl, fun _ _ _ _ _ _ => rfl⟩
theorem sFr.up {S T : St} (h : sFr S T) {i : Nat} {x : Int32} (hi : i = 18 ∨ i = 20 ∨ i = 21 ∨ i = 22 ∨ i = 23) : sFr S (up T 142 i x) := ⟨fun a ha => by rw [up_ne ha]; exact h.1 a ha, fun j h1 h2 h3 h4 h5 => by rw [up_off (by omega)]; exact h.2 j h1 h2 h3 h4 h5⟩
theorem rz_if {c : Prop} [Decidable c] {x y : Int32} {S : St} : rz (if c then x else y) S = if c then rz x S else rz y S := by split <;> rfl
def ilf (a : Int32) : Int32 := if a < 97 then 0 else (if 122 < a then 0 else 1)
def idf (a : Int32) : Int32 := if a < 48 then 0 else (if 57 < a then 0 else 1)
def imf (a : Int32) : Int32 := if a = 59 then 1 else (if a = 40 then 1 else (if a = 41 then 1 else (if a = 43 then 1 else (if a = 45 then 1 else (if a = 42 then 1 else (if a = 47 then 1 else (if a = 60 then 1 else (if a = 61 then 1 else 0))))))))
theorem isLetter_s (a : Int32) (S : St) : fX10_isLetter a S = rz (ilf a) S := by simp only [fX10_isLetter, ilf, rz_if]
theorem isDigit_s (a : Int32) (S : St) : fX10_isDigit a S = rz (idf a) S := by simp only [fX10_isDigit, idf, rz_if]
theorem isMark_s (a : Int32) (S : St) : fX10_isMark a S = rz (imf a) S := by simp only [fX10_isMark, imf, rz_if]
theorem byt_N : ∀ b, b < 256 → ilf (nI b) = b2i (decide (kb b = 1)) ∧ idf (nI b) = b2i (decide (kb b = 2)) ∧ imf (nI b) = b2i (decide (3 < kb b)) := by decide +kernel
/-- the byte at a place, or none -/
def byI (B : Nat → Nat) (n q : Nat) : Int32 := if q < n then nI (B q) else -1
theorem M_byteAt {B : Nat → Nat} {n q : Nat} {S : St} (hT : TM B n S) (h1 : S 142 19 = nI n) (hq : q ≤ n) : fX10_byteAt (nI q) S = some (byI B n q, S) := by
  have hn := hT.1
  unfold fX10_byteAt byI
  rw [h1]
  by_cases c : q < n
  · rw [if_neg (nI_ge c (by omega)), if_pos c, rd157 (by omega), (hT.2 q c).2]; rfl
  · rw [if_pos (nI_le (by omega) (by omega)), if_neg c]; rfl
theorem M_letter {B : Nat → Nat} {n q : Nat} {S : St} (hT : TM B n S) : fX10_isLetter (byI B n q) S = some (b2i (decide (q < n ∧ kb (B q) = 1)), S) := by
  rw [isLetter_s]
  unfold byI
  by_cases c : q < n
  · rw [if_pos c, (byt_N _ (hT.B q c)).1, rz_b]
    simp only [c, true_and]
  · rw [if_neg c, decide_eq_false (fun z => c z.1)]; rfl
theorem M_digit {B : Nat → Nat} {n q : Nat} {S : St} (hT : TM B n S) : fX10_isDigit (byI B n q) S = some (b2i (decide (q < n ∧ kb (B q) = 2)), S) := by
  rw [isDigit_s]
  unfold byI
  by_cases c : q < n
  · rw [if_pos c, (byt_N _ (hT.B q c)).2.1, rz_b]
    simp only [c, true_and]
  · rw [if_neg c, decide_eq_false (fun z => c z.1)]; rfl
theorem mkT_e {k : Nat} : (k = 0 → mkT k = 0) ∧ (k = 1 → mkT k = 1) ∧ (k = 2 → mkT k = 2) ∧ (k = 3 → mkT k = 4) ∧ (3 < k → mkT k = 3) := by
  unfold mkT
  refine ⟨fun h => ?_, fun h => ?_, fun h => ?_, fun h => ?_, fun h => ?_⟩
  · subst h; rfl
  · subst h; rfl
  · subst h; rfl
  · subst h; rfl
  · rw [if_neg (by omega), if_pos h]
/-- where a token ends -/
theorem M_end {B : Nat → Nat} {n p : Nat} {S S1 : St} (hp : p ≤ n) (hn : n ≤ 700) (h24 : S 142 24 = 0) (h19 : S 142 19 = nI n) (f : sFr S S1) (a18 : S1 142 18 = nI (tE B n p)) (a20 : S1 142 20 = nI (mkT (tK B n p))) (a22 : S1 142 22 = nI (tS B n p)) (a21 : tK B n p = 2 → tE B n p - tS B n p ≤ 4 → S1 142 21 = nI (tN B n p)) : ok (BX10_stepOn_212 S1) (fun S' => MT B n S' p ∧ sFr S S') := by
  unfold BX10_stepOn_212
  rw [pf_s, a18]
  refine ok_some ⟨⟨?_, ?_, ?_, ?_, ?_, ?_, ?_⟩, f.up (by omega)⟩
  · rw [up_off (by decide), f.2 19 (by decide) (by decide) (by decide) (by decide) (by decide)]; exact h19
  · rw [up_off (by decide)]; exact a18
  · rw [up_off (by decide)]; exact a20
  · rw [up_off (by decide)]; exact a22
  · rw [up_at]
  · intro x y; rw [up_off (by decide)]; exact a21 x y
  · rw [up_off (by decide), f.2 24 (by decide) (by decide) (by decide) (by decide) (by decide)]; exact h24
theorem M_word {B : Nat → Nat} {n p : Nat} {S : St} (hT : TM B n S) (hp : p ≤ n) (h24 : S 142 24 = 0) (h19 : S 142 19 = nI n) (hk : tK B n p = 1) : ∀ (k r : Nat) (S1 : St), n - r < k → r ≤ n → tE B n p = scn (isK B 1) n r → sFr S S1 → S1 142 18 = nI r → S1 142 22 = nI (tS B n p) → ok (LX10_stepOn_76 k S1) (fun S' => MT B n S' p ∧ sFr S S') := by
  have hn := hT.1
  intro k
  induction k with
  | zero => intro r S1 h; omega
  | succ k ih =>
    intro r S1 hk' hr er f a18 a22
    have hT1 : TM B n S1 := hT.go (f.1 157 (by decide))
    have e19 : S1 142 19 = nI n := by rw [f.2 19 (by decide) (by decide) (by decide) (by decide) (by decide)]; exact h19
    show ok (KX10_stepOn_76 (LX10_stepOn_76 k) S1) _
    unfold KX10_stepOn_76
    rw [a18, M_byteAt hT1 e19 hr, bd_s, M_letter hT1, bd_s]
    by_cases c : r < n ∧ kb (B r) = 1
    · rw [decide_eq_true c, b2i_t, if_neg (by decide), pf_s, a18, nI_1]
      exact ih (r + 1) _ (by omega) (by omega) (by rw [er, scn_t c.1 (by unfold isK; exact decide_eq_true c.2)]) (f.up (by omega)) up_at (by rw [up_off (by decide)]; exact a22)
    · rw [decide_eq_false c, b2i_f, if_pos rfl, pf_s]
      have ee : tE B n p = r := by
        rw [er]
        refine scn_f ?_
        by_cases c1 : r < n
        · exact Or.inr (by unfold isK; exact decide_eq_false (fun z => c ⟨c1, z⟩))
        · exact Or.inl (by omega)
      exact M_end hp hn h24 h19 (f.up (by omega)) (by rw [up_off (by decide), ee]; exact a18) (by rw [up_at, mkT_e.2.1 hk]; rfl) (by rw [up_off (by decide)]; exact a22) (fun x => by omega)
theorem M_num {B : Nat → Nat} {n p : Nat} {S : St} (hT : TM B n S) (hp : p ≤ n) (h24 : S 142 24 = 0) (h19 : S 142 19 = nI n) (hk : tK B n p = 2) : ∀ (k r : Nat) (S1 : St), n - r < k → tS B n p ≤ r → r ≤ n → r ≤ tE B n p → tE B n p = scn (isK B 2) n r → sFr S S1 → S1 142 18 = nI r → S1 142 22 = nI (tS B n p) → (∃ m, m ≤ 100000 ∧ S1 142 21 = nI m ∧ (r - tS B n p ≤ 4 → m = dg B (tS B n p) (r - tS B n p))) → ok (LX10_stepOn_123 k S1) (fun S' => MT B n S' p ∧ sFr S S') := by
  have hn := hT.1
  intro k
  induction k with
  | zero => intro r S1 h; omega
  | succ k ih =>
    intro r S1 hk' hs hr hre er f a18 a22 hm
    obtain ⟨m, m5, a21, em⟩ := hm
    have hT1 : TM B n S1 := hT.go (f.1 157 (by decide))
    have e19 : S1 142 19 = nI n := by rw [f.2 19 (by decide) (by decide) (by decide) (by decide) (by decide)]; exact h19
    show ok (KX10_stepOn_123 (LX10_stepOn_123 k) S1) _
    unfold KX10_stepOn_123
    rw [a18, M_byteAt hT1 e19 hr, bd_s, M_digit hT1, bd_s]
    by_cases c : r < n ∧ kb (B r) = 2
    · have d57 := (kb_b _ (hT.B r c.1)).2.2.1 c.2
      have eb : byI B n r = nI (B r) := by unfold byI; rw [if_pos c.1]
      rw [decide_eq_true c, b2i_t, if_neg (by decide), vl_s, a21, a18, M_byteAt hT1 e19 hr, bd_s, vl_s, eb, lm10, nI_add, show (48 : Int32) = nI 48 from rfl, pk_sub (by omega), pf_s]
      have er1 : tE B n p = scn (isK B 2) n (r + 1) := by rw [er, scn_t c.1 (by unfold isK; exact decide_eq_true c.2)]
      have hre1 : r + 1 ≤ tE B n p := by rw [er1]; exact scn_ge
      have em1 : r + 1 - tS B n p ≤ 4 → 10 * m + B r - 48 = dg B (tS B n p) (r + 1 - tS B n p) := by
        intro h4
        have e := em (by omega)
        rw [show r + 1 - tS B n p = (r - tS B n p) + 1 by omega]
        show _ = dg B (tS B n p) (r - tS B n p) * 10 + (B (tS B n p + (r - tS B n p)) - 48)
        rw [show tS B n p + (r - tS B n p) = r by omega, ← e]
        omega
      have go : ∀ x m', m' ≤ 100000 → x = nI m' → (r + 1 - tS B n p ≤ 4 → m' = dg B (tS B n p) (r + 1 - tS B n p)) → ok (LX10_stepOn_123 k (up (up S1 142 21 x) 142 18 (nI (r + 1)))) (fun S' => MT B n S' p ∧ sFr S S') := by
        intro x m' hm' hx e'
        refine ih (r + 1) _ (by omega) (by omega) (by omega) hre1 er1 ((f.up (by omega)).up (by omega)) up_at (by rw [up_off (by decide), up_off (by decide)]; exact a22) ⟨m', hm', ?_, e'⟩
        rw [up_off (by decide), up_at]; exact hx
      have a18' : up S1 142 21 (if nI (10 * m + B r - 48) < 100000 then nI (10 * m + B r - 48) else 100000) 142 18 + 1 = nI (r + 1) := by rw [up_off (by decide), a18, nI_1]
      rw [pf_s, a18']
      by_cases c5 : 10 * m + B r - 48 < 100000
      · rw [if_pos (show _ < (100000 : Int32) from nI_lt (b := 100000) c5 (by decide))]
        exact go _ _ (by omega) rfl em1
      · rw [if_neg (show ¬ _ < (100000 : Int32) from nI_nlt (b := 100000) (by omega) (by omega))]
        refine go _ 100000 (by omega) rfl (fun h4 => ?_)
        have e := em1 h4
        have hl := dg_lt (B := B) (s := tS B n p) (r + 1 - tS B n p) (fun i hi => by
          have q := tK_in (B := B) (n := n) (p := p) (Or.inr hk) (show tS B n p ≤ tS B n p + i by omega) (by omega)
          rw [hk] at q
          exact ((kb_b _ (hT.B _ (by have := tE_le (B := B) hp; omega))).2.2.1 q).2)
        have h4' : (10 : Nat) ^ (r + 1 - tS B n p) ≤ 10 ^ 4 := Nat.pow_le_pow_right (by decide) h4
        omega
    · rw [decide_eq_false c, b2i_f, if_pos rfl, pf_s]
      have ee : tE B n p = r := by
        rw [er]
        refine scn_f ?_
        by_cases c1 : r < n
        · exact Or.inr (by unfold isK; exact decide_eq_false (fun z => c ⟨c1, z⟩))
        · exact Or.inl (by omega)
      refine M_end hp hn h24 h19 (f.up (by omega)) (by rw [up_off (by decide), ee]; exact a18) (by rw [up_at, mkT_e.2.2.1 hk]; rfl) (by rw [up_off (by decide)]; exact a22) (fun _ y => ?_)
      rw [up_off (by decide), a21]
      unfold tN
      rw [ee] at y ⊢
      rw [em y]
theorem M_step {B : Nat → Nat} {n p : Nat} {S : St} (hT : TM B n S) (hp : p ≤ n) (h24 : S 142 24 = 0) (h19 : S 142 19 = nI n) (h18 : S 142 18 = nI p) : ok (fX10_stepOn S) (fun S' => MT B n S' p ∧ sFr S S') := by
  have hn := hT.1
  have key : ∀ (k q : Nat) (S1 : St), n - q < k → q ≤ n → tS B n q = tS B n p → sFr S S1 → S1 142 18 = nI q → ok (LX10_stepOn_0 k S1) (fun S' => MT B n S' p ∧ sFr S S') := by
    intro k
    induction k with
    | zero => intro q S1 h; omega
    | succ k ih =>
      intro q S1 hk hq es f a18
      have hT1 : TM B n S1 := hT.go (f.1 157 (by decide))
      have e19 : S1 142 19 = nI n := by rw [f.2 19 (by decide) (by decide) (by decide) (by decide) (by decide)]; exact h19
      have e24 : S1 142 24 = 0 := by rw [f.2 24 (by decide) (by decide) (by decide) (by decide) (by decide)]; exact h24
      show ok (KX10_stepOn_0 (LX10_stepOn_0 k) S1) _
      unfold KX10_stepOn_0
      rw [a18, M_byteAt hT1 e19 hq, bd_s]
      have on : q < n → (B q = 32 ∨ B q = 10) → ok (BX10_stepOn_26 (LX10_stepOn_0 k) S1) (fun S' => MT B n S' p ∧ sFr S S') := by
        intro hq' hw
        unfold BX10_stepOn_26
        rw [pf_s, a18, nI_1]
        refine ih (q + 1) _ (by omega) (by omega) ?_ (f.up (by omega)) up_at
        rw [← es]
        unfold tS
        rw [scn_t hq' (by unfold wsB; exact decide_eq_true hw)]
      by_cases c32 : byI B n q = 32
      · rw [if_pos c32]
        unfold byI at c32
        split at c32
        · rename_i c
          exact on c (Or.inl ((nI_eq (by have := hT.B q c; omega) (by decide)).mp c32))
        · exact absurd c32 (by decide)
      · rw [if_neg c32, a18, M_byteAt hT1 e19 hq, bd_s]
        by_cases c10 : byI B n q = 10
        · rw [if_pos c10]
          unfold byI at c10
          split at c10
          · rename_i c
            exact on c (Or.inr ((nI_eq (by have := hT.B q c; omega) (by decide)).mp c10))
          · exact absurd c10 (by decide)
        · have eS : tS B n p = q := by
            rw [← es]
            refine scn_f ?_
            by_cases c : q < n
            · refine Or.inr ?_
              unfold wsB
              refine decide_eq_false (fun z => ?_)
              unfold byI at c32 c10
              rw [if_pos c] at c32 c10
              rcases z with z | z
              · rw [z] at c32; exact c32 rfl
              · rw [z] at c10; exact c10 rfl
            · exact Or.inl (by omega)
          rw [if_neg c10, pf_s, a18]
          generalize hS2 : up S1 142 22 (nI q) = S2
          have f2 : sFr S S2 := by rw [← hS2]; exact f.up (by omega)
          have b18 : S2 142 18 = nI q := by rw [← hS2, up_off (by decide)]; exact a18
          have b22 : S2 142 22 = nI (tS B n p) := by rw [← hS2, up_at, eS]
          have hT2 : TM B n S2 := hT.go (f2.1 157 (by decide))
          have e19' : S2 142 19 = nI n := by rw [f2.2 19 (by decide) (by decide) (by decide) (by decide) (by decide)]; exact h19
          rw [b18, M_byteAt hT2 e19' hq, bd_s]
          by_cases c : q < n
          · have hb := hT.B q c
            have eb : byI B n q = nI (B q) := by unfold byI; rw [if_pos c]
            have ek : tK B n p = kb (B q) := by unfold tK; rw [eS, if_pos c]
            have kbb := kb_b _ hb
            rw [if_neg (by rw [eb]; exact nI_ne_m1 (by omega)), M_letter hT2, bd_s]
            by_cases c1 : kb (B q) = 1
            · rw [decide_eq_true ⟨c, c1⟩, b2i_t, if_neg (by decide)]
              refine M_word hT hp h24 h19 (by rw [ek]; exact c1) FU q S2 (by unfold FU; omega) hq ?_ f2 b18 b22
              unfold tE
              rw [eS, if_pos c, if_pos (by omega), ek, c1, scn_t (w := isK B 1) c (by unfold isK; exact decide_eq_true c1)]
            · rw [decide_eq_false (fun z => c1 z.2), b2i_f, if_pos rfl, M_digit hT2, bd_s]
              by_cases c2 : kb (B q) = 2
              · rw [decide_eq_true ⟨c, c2⟩, b2i_t, if_neg (by decide), pf_s]
                have eE : tE B n p = scn (isK B 2) n q := by
                  unfold tE
                  rw [eS, if_pos c, if_pos (by omega), ek, c2, scn_t (w := isK B 2) c (by unfold isK; exact decide_eq_true c2)]
                refine M_num hT hp h24 h19 (by rw [ek]; exact c2) FU q _ (by unfold FU; omega) (by omega) hq (by rw [eE]; exact scn_ge) eE (f2.up (by omega)) (by rw [up_off (by decide)]; exact b18) (by rw [up_off (by decide)]; exact b22) ⟨0, by omega, up_at, fun _ => ?_⟩
                rw [eS, Nat.sub_self]; rfl
              · rw [decide_eq_false (fun z => c2 z.2), b2i_f, if_pos rfl, pf_s, b18, nI_1, eb, isMark_s, (byt_N _ hb).2.2, rz_b, bd_s]
                have eE : tE B n p = q + 1 := by unfold tE; rw [eS, if_pos c, if_neg (by omega)]
                have g18 : ∀ (S3 : St) (x : Int32), S3 142 18 = nI (q + 1) → up S3 142 20 x 142 18 = nI (tE B n p) := fun S3 x h => by rw [up_off (by decide), eE]; exact h
                by_cases c3 : 3 < kb (B q)
                · rw [decide_eq_true c3, b2i_t, if_neg (by decide)]
                  unfold BX10_stepOn_209
                  rw [pf_s]
                  exact M_end hp hn h24 h19 ((f2.up (by omega)).up (by omega)) (g18 _ _ up_at) (by rw [up_at, mkT_e.2.2.2.2 (by omega)]; rfl) (by rw [up_off (by decide), up_off (by decide)]; exact b22) (fun x => by omega)
                · rw [decide_eq_false c3, b2i_f, if_pos rfl]
                  unfold BX10_stepOn_209
                  rw [pf_s]
                  exact M_end hp hn h24 h19 ((f2.up (by omega)).up (by omega)) (g18 _ _ up_at) (by rw [up_at, mkT_e.2.2.2.1 (by omega)]; rfl) (by rw [up_off (by decide), up_off (by decide)]; exact b22) (fun x => by omega)
          · have eb : byI B n q = -1 := by unfold byI; rw [if_neg c]
            have ek : tK B n p = 0 := by unfold tK; rw [eS, if_neg c]
            have eE : tE B n p = q := by unfold tE; rw [eS, if_neg c]
            rw [if_pos eb, pf_s]
            exact M_end hp hn h24 h19 (f2.up (by omega)) (by rw [up_off (by decide), eE]; exact b18) (by rw [up_at, mkT_e.1 ek]; rfl) (by rw [up_off (by decide)]; exact b22) (fun x => by omega)
  exact key FU p S (by unfold FU; omega) hp rfl sFr.rf h18
theorem M_is {B : Nat → Nat} {n p : Nat} {S : St} (hT : TM B n S) (hC : MT B n S p) (hp : p ≤ n) {q : Nat} (hq : q < 18) : fX10_is q S = some (b2i (wd B n q p), S) := by
  have hn := hT.1
  have hB := hT.B
  have hE := tE_le (B := B) hp
  have hg := tE_ge (B := B) (n := n) (p := p)
  have h30 := (str_N q hq).2.1
  have k61 := tK_le (B := B) (n := n) (p := p) hB
  have no : wd B n q p = false → BX10_is_35 q S = some (b2i (wd B n q p), S) := fun h => by rw [h]; rfl
  unfold fX10_is
  rw [hC.2.2.2.2.2.2, if_pos rfl, hC.2.2.1]
  by_cases c : tK B n p = 1
  · rw [if_pos (by rw [mkT_e.2.1 c]; rfl), sl_s hq, hC.2.2.2.2.1, hC.2.2.2.1, pk_sub hg]
    by_cases c2 : tE B n p - tS B n p = (wsN q).length
    · rw [if_pos (by rw [c2])]
      have key : ∀ k i, (wsN q).length - i < k → i ≤ (wsN q).length → (∀ j, j < i → B (tS B n p + j) = (wsN q).getD j 0) → LX10_is_39 (k + 1) q 1 (nI i) S = some (b2i (wd B n q p), S) := by
        intro k
        induction k with
        | zero => intro i h; omega
        | succ k ih =>
          intro i hk hi hm
          show KX10_is_39 (LX10_is_39 (k + 1)) q 1 (nI i) S = _
          unfold KX10_is_39
          rw [if_neg (by decide), sl_s hq]
          by_cases c3 : (wsN q).length ≤ i
          · rw [if_pos (nI_le c3 (by omega))]
            have : wd B n q p = true := by
              unfold wd
              rw [decide_eq_true c, decide_eq_true ((tW_eq c2).mpr (fun j hj => hm j (by omega)))]; rfl
            rw [this]; rfl
          · have hin : tS B n p + i < n := by omega
            rw [if_neg (nI_ge (by omega) (by omega)), sh_s hq (by omega), hC.2.2.2.1, nI_add, rd157 (by omega), (hT.2 _ hin).2]
            have cc := ((str_N q hq).2.2 i (by omega)).2
            have hbb := hB _ hin
            unfold BX10_is_75
            by_cases c4 : B (tS B n p + i) = (wsN q).getD i 0
            · rw [if_pos (by rw [c4]), vl_s, nI_1]
              refine ih (i + 1) (by omega) (by omega) (fun j hj => ?_)
              by_cases e : j = i
              · rw [e]; exact c4
              · exact hm j (by omega)
            · rw [if_neg (by rw [nI_eq (by omega) (by omega)]; exact fun z => c4 z.symm), vl_s, nI_1]
              have : wd B n q p = false := by
                unfold wd
                rw [decide_eq_false (fun z => c4 ((tW_eq c2).mp z i (by omega))), Bool.and_false]
              rw [this]
              show KX10_is_39 (LX10_is_39 k) q 0 (nI (i + 1)) S = _
              unfold KX10_is_39
              rw [if_pos rfl]; rfl
      unfold BX10_is_36
      exact key 4999 0 (by omega) (by omega) (fun j hj => absurd hj (by omega))
    · rw [if_neg (by rw [nI_eq (by omega) (by omega)]; exact fun z => c2 z.symm)]
      exact no (by unfold wd; rw [decide_eq_false (tW_ne c2), Bool.and_false])
  · have : mkT (tK B n p) ≠ 1 ∧ mkT (tK B n p) ≤ 61 := by
      unfold mkT
      split
      · omega
      · first | omega | (split <;> omega)
    rw [if_neg (by rw [show (1 : Int32) = nI 1 from rfl, nI_eq (by omega) (by omega)]; exact this.1)]
    exact no (by unfold wd; rw [decide_eq_false c]; rfl)
theorem M_is_bad {S : St} (h : ¬ S 142 24 = 0) {q : Nat} : fX10_is q S = some (0, S) := by
  unfold fX10_is
  rw [if_neg h]; rfl
theorem M_isMarked {B : Nat → Nat} {n p : Nat} {S : St} (hT : TM B n S) (hC : MT B n S p) (hp : p ≤ n) {c : Nat} (hc : c = 40 ∨ c = 41 ∨ c = 42 ∨ c = 43 ∨ c = 45 ∨ c = 47 ∨ c = 59 ∨ c = 60 ∨ c = 61) : fX10_isMarked (nI c) S = some (b2i (decide (tK B n p = c)), S) := by
  have hn := hT.1
  have hB := hT.B
  have k61 := tK_le (B := B) (n := n) (p := p) hB
  unfold fX10_isMarked
  rw [hC.2.2.2.2.2.2, if_pos rfl, hC.2.2.1]
  by_cases c3 : 3 < tK B n p
  · have h1 := tK_pos (B := B) (n := n) (p := p) (by omega)
    have hb := hB _ h1.1
    have ek := tK_b (B := B) (n := n) (p := p) (by omega)
    have eb : tK B n p = B (tS B n p) := by
      have := (kb_b _ hb).2.2.2.2.1 (by omega)
      omega
    rw [if_pos (by rw [mkT_e.2.2.2.2 c3]; rfl), hC.2.2.2.1, rd157 (by omega), (hT.2 _ h1.1).2]
    by_cases c4 : tK B n p = c
    · rw [if_pos (by rw [← c4, eb]), decide_eq_true c4]; rfl
    · rw [if_neg (by rw [nI_eq (by omega) (by omega), ← eb]; exact c4), decide_eq_false c4]; rfl
  · have : mkT (tK B n p) ≠ 3 ∧ mkT (tK B n p) ≤ 61 := by
      unfold mkT
      split
      · omega
      · first | omega | (split <;> omega)
    rw [if_neg (by rw [show (3 : Int32) = nI 3 from rfl, nI_eq (by omega) (by omega)]; exact this.1), decide_eq_false (by omega)]; rfl
theorem M_isMarked_bad {S : St} (h : ¬ S 142 24 = 0) {c : Int32} : fX10_isMarked c S = some (0, S) := by
  unfold fX10_isMarked
  rw [if_neg h]; rfl
