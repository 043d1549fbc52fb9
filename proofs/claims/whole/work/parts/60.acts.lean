/-! pieces of what class and reference have in common -/
theorem VV.go {V : Vy} {v : Nat} {S S' : St} (h : VV V v S) (hc : ∀ a, v ≤ a → a ≤ v + 13 → a ≠ v + 12 → S' a = S a) (hm : ∀ a, (142 < a ∧ a < 156) ∨ a = 164 → S' a = S a) : VV V v S' :=
  ⟨h.1.go hc, h.2.1.go (fun a ha => hm a (by omega)), h.2.2.go (hc _ (by omega) (by omega) (by omega)) (hc _ (by omega) (by omega) (by omega)) (hc _ (by omega) (by omega) (by omega)) (hc _ (by omega) (by omega) (by omega)) (hm _ (by omega)) (hm _ (by omega)) (hm _ (by omega)) (hm _ (by omega))⟩
theorem Tp.go {S S' : St} (h : Tp S) (h1 : S' 0 1 = S 0 1) (h2 : S' 142 17 = S 142 17) (h3 : S' 157 = S 157) (h4 : S' 1 = S 1) : Tp S' := by
  unfold Tp at h ⊢
  rw [h1, h2, h3, h4]; exact h
theorem Im.go {V : Vy} {S S' : St} (h : Im V S) (h1 : S' 0 8 = S 0 8) (hc : ∀ a, 83 ≤ a → a ≤ 129 → S' a = S a) (hm : ∀ a, 179 < a → a < 186 → S' a = S a) (h2 : ∀ j, (j = 57 ∨ j = 58 ∨ j = 59) → S' 142 j = S 142 j) : Im V S' := by
  unfold Im at h ⊢
  rw [h1, hm 180 (by omega) (by omega), hm 181 (by omega) (by omega), hm 182 (by omega) (by omega), hm 183 (by omega) (by omega), hm 184 (by omega) (by omega), hm 185 (by omega) (by omega), h2 57 (by omega), h2 58 (by omega), h2 59 (by omega)]
  rcases h with q | ⟨q1, q2, q3⟩
  · exact Or.inl q
  · exact Or.inr ⟨q1, q2, q3.go (fun a h1 h2 => hc a h1 h2) rg.rf⟩
/-- an act: the row, and the acts' rows -/
theorem Rl.act {V : Vy} {v d : Nat} {S S' : St} (h : Rl V v d S) (hc : ∀ a, a < 130 → a ≠ 14 → a ≠ 16 → a ≠ 29 → a ≠ 31 → a ≠ 36 → a ≠ 37 → (a < 39 ∨ 78 < a) → S' a = S a) (h36 : S' 36 4 = S 36 4) (hm : ∀ a, ((142 < a ∧ a < 158) ∨ a = 164 ∨ (172 < a ∧ a < 176) ∨ (179 < a ∧ a < 186)) → S' a = S a) (h142 : ∀ j, (j = 17 ∨ j = 26 ∨ j = 37 ∨ j = 41 ∨ j = 57 ∨ j = 58 ∨ j = 59) → S' 142 j = S 142 j) (hag : rg V (S' 37) (mr S')) (hok : ROk V 10000 (S' 37)) {n : Nat} {hh : Nat → Rw} (n4 : n ≤ 40) (h1 : HC S' 36 n hh) (h2 : HM V (S' 163) (S' 142 36) n hh) (h3 : ∀ j, j < n → ROk V 10000 (hh j)) : Rl V v d S' := by
  obtain ⟨hv, e3, e4, hVV, hS, hT, hf, hz, hI⟩ := h
  have c0 : S' 0 = S 0 := hc 0 (by decide) (by decide) (by decide) (by decide) (by decide) (by decide) (by decide) (by decide)
  obtain ⟨-, -, -, ⟨m, m8, q4, qm, qi⟩, q5⟩ := hS
  refine ⟨hv, by rw [c0]; exact e3, by rw [c0]; exact e4, hVV.go (fun a h1 h2 h3 => hc a (by omega) (by omega) (by omega) (by omega) (by omega) (by omega) (by omega) (by omega)) (fun a ha => hm a (by omega)), ⟨hag, hok, ⟨n, hh, n4, h1, h2, h3⟩, ⟨m, m8, by rw [h36]; exact q4, by rw [h142 37 (by omega)]; exact qm, fun i hi => ?_⟩, fun i hi => ?_⟩, hT.go (by rw [c0]) (h142 17 (by omega)) (hm 157 (by omega)) (hc 1 (by decide) (by decide) (by decide) (by decide) (by decide) (by decide) (by decide) (by decide)), by rw [c0, h142 26 (by omega)]; exact hf, by rw [h142 41 (by omega)]; exact hz, hI.go (by rw [c0]) (fun a h1 h2 => hc a (by omega) (by omega) (by omega) (by omega) (by omega) (by omega) (by omega) (by omega)) (fun a h1 h2 => hm a (by omega)) (fun j hj => h142 j (by omega))⟩
  · rw [hm 173 (by omega), hm 174 (by omega), hm 175 (by omega), hc (36 + 43) (by decide) (by decide) (by decide) (by decide) (by decide) (by decide) (by decide) (by decide), hc (36 + 44) (by decide) (by decide) (by decide) (by decide) (by decide) (by decide) (by decide) (by decide), hc (36 + 45) (by decide) (by decide) (by decide) (by decide) (by decide) (by decide) (by decide) (by decide)]
    exact qi i hi
  · rw [hm 156 (by omega), hc (36 + 46) (by decide) (by decide) (by decide) (by decide) (by decide) (by decide) (by decide) (by decide)]; exact q5 i hi
/-- a refusal -/
theorem Rl.refuse {V : Vy} {v d : Nat} {S S' : St} (h : Rl V v d S) {k : Nat} (hk : k < 3) (hc : ∀ a, a < 130 → a ≠ 14 → a ≠ 16 → a ≠ 29 → a ≠ 31 → a ≠ 82 → S' a = S a) (h82 : S' 82 = upd (S 82) k (S 82 k + 1)) (hm : ∀ a, ((142 < a ∧ a < 156) ∨ a = 157 ∨ a = 163 ∨ a = 164 ∨ (172 < a ∧ a < 176) ∨ (179 < a ∧ a < 186)) → S' a = S a) (h156 : S' 156 = upd (S 156) k (S 156 k + 1)) (h142 : ∀ j, (j = 17 ∨ j = 26 ∨ j = 36 ∨ j = 37 ∨ j = 41 ∨ j = 57 ∨ j = 58 ∨ j = 59) → S' 142 j = S 142 j) (hr : rg V (mr S') (mr S)) : Rl V v d S' := by
  obtain ⟨hv, e3, e4, hVV, hS, hT, hf, hz, hI⟩ := h
  have c0 : S' 0 = S 0 := hc 0 (by decide) (by decide) (by decide) (by decide) (by decide) (by decide)
  obtain ⟨a1, a2, ⟨n, hh, n4, q1, q2, q3⟩, ⟨m, m8, q4, qm, qi⟩, q5⟩ := hS
  have c36 : S' 36 = S 36 := hc 36 (by decide) (by decide) (by decide) (by decide) (by decide) (by decide)
  have c37 : S' (36 + 1) = S (36 + 1) := hc 37 (by decide) (by decide) (by decide) (by decide) (by decide) (by decide)
  refine ⟨hv, by rw [c0]; exact e3, by rw [c0]; exact e4, hVV.go (fun a h1 h2 h3 => hc a (by omega) (by omega) (by omega) (by omega) (by omega) (by omega)) (fun a ha => hm a (by omega)), ⟨by rw [c37]; exact a1.tr hr.sm, by rw [c37]; exact a2, ⟨n, hh, n4, q1.go (by rw [c36]) (by rw [c36]) (fun a h1 h2 => hc a (by omega) (by omega) (by omega) (by omega) (by omega) (by omega)), by rw [hm 163 (by omega), h142 36 (by omega)]; exact q2, q3⟩, ⟨m, m8, by rw [c36]; exact q4, by rw [h142 37 (by omega)]; exact qm, fun i hi => ?_⟩, fun i hi => ?_⟩, hT.go (by rw [c0]) (h142 17 (by omega)) (hm 157 (by omega)) (hc 1 (by decide) (by decide) (by decide) (by decide) (by decide) (by decide)), by rw [c0, h142 26 (by omega)]; exact hf, by rw [h142 41 (by omega)]; exact hz, hI.go (by rw [c0]) (fun a h1 h2 => hc a (by omega) (by omega) (by omega) (by omega) (by omega) (by omega)) (fun a h1 h2 => hm a (by omega)) (fun j hj => h142 j (by omega))⟩
  · rw [hm 173 (by omega), hm 174 (by omega), hm 175 (by omega), hc (36 + 43) (by decide) (by decide) (by decide) (by decide) (by decide) (by decide), hc (36 + 44) (by decide) (by decide) (by decide) (by decide) (by decide) (by decide), hc (36 + 45) (by decide) (by decide) (by decide) (by decide) (by decide) (by decide)]
    exact qi i hi
  · show S' 82 i = S' 156 i
    rw [h82, h156]
    unfold upd
    split
    · have := q5 k hk
      rw [show S 82 k = S 156 k from this]
    · exact q5 i hi
theorem C_refuse {S : St} {k : Nat} (hk : k < 3) : fX4_refuse 36 (nI k) S = some (up S 82 k (S 82 k + 1)) := by
  unfold fX4_refuse
  show (rd S 82 (nI k) fun x2 => wr S 82 (nI k) (x2 + 1) fun S => some S) = _
  rw [rd82 hk, wr82 hk]
theorem M_refuse {S : St} {k : Nat} (hk : k < 3) : fX10_refuse (nI k) S = some (-1, up S 156 k (S 156 k + 1)) := by
  unfold fX10_refuse
  rw [rd156 hk, wr156 hk]
  rfl
theorem M_refuses {S : St} : fX10_refuses S = some (0, up S 156 1 (S 156 1 + 1)) := by
  unfold fX10_refuses
  rw [rd156_1, wr156_1]; rfl
/-- both refuse -/
theorem refd {V : Vy} {v d : Nat} {S : St} (h : Rl V v d S) {k : Nat} (hk : k < 3) (x : Int32) : Rl V v d (up (up (up (up S 82 k (S 82 k + 1)) 186 0 x) 142 3 0) 156 k (S 156 k + 1)) := by
  refine h.refuse hk (fun a h1 h2 h3 h4 h5 h6 => ?_) ?_ (fun a ha => ?_) ?_ (fun j hj => ?_) ?_
  · rw [up_ne (by omega), up_ne (by omega), up_ne (by omega), up_ne h6]
  · rw [up_ne (by decide), up_ne (by decide), up_ne (by decide), up_row]
  · rw [up_ne (by omega), up_ne (by omega), up_ne (by omega), up_ne (by omega)]
  · rw [up_row, up_ne (by decide), up_ne (by decide), up_ne (by decide)]
  · rw [up_ne (by decide), up_off (by omega), up_ne (by decide), up_ne (by decide)]
  · rw [mr_up (by omega) (by omega), mr_up (by omega) (by omega), mr_up (by omega) (by omega), mr_up (by omega) (by omega)]; exact rg.rf
/-! laying an act by -/
def pN (n : Nat) : Nat := if n < 40 then n + 1 else 40
def pH (n : Nat) (h : Nat → Rw) (r : Rw) : Nat → Rw := if n < 40 then (fun j => if j = n then r else h j) else (fun j => if j = 39 then r else h (j + 1))
theorem pN_le (n : Nat) : pN n ≤ 40 := by unfold pN; split <;> omega
theorem pH_ok {V : Vy} {n : Nat} {h : Nat → Rw} {r : Rw} (n4 : n ≤ 40) (hh : ∀ j, j < n → ROk V 10000 (h j)) (hr : ROk V 10000 r) : ∀ j, j < pN n → ROk V 10000 (pH n h r j) := by
  intro j hj
  unfold pN at hj
  unfold pH
  by_cases c : n < 40
  · rw [if_pos c] at hj ⊢
    show ROk V 10000 (if j = n then r else h j)
    split
    · exact hr
    · exact hh j (by omega)
  · rw [if_neg c] at hj ⊢
    show ROk V 10000 (if j = 39 then r else h (j + 1))
    split
    · exact hr
    · exact hh (j + 1) (by omega)
theorem C_keep28 {S : St} {n o : Nat} (hn : n < 40) (ho : o < 40) (e3 : S 36 3 = nI n) (e2 : S 36 2 = nI o) : BX4_keepAct_28 36 S = some (up (cpy S 37 0 (39 + (o + n) % 40) 0 106) 36 3 (nI (n + 1))) := by
  have hm := Nat.mod_lt (o + n) (by decide : 40 > 0)
  unfold BX4_keepAct_28
  rw [e3, e2, nI_add, show (40 : Int32) = nI 40 from rfl, rm_n (by omega) (by decide) (by decide)]
  show (rr 38 (nI ((o + n) % 40)) fun q4 => ac S 37 0 q4 0 106 fun S => pf S 36 3 ((S 36 3) + 1) fun S => some S) = _
  have hl : ln (38 + 1 + (o + n) % 40) = 106 := by
    generalize (o + n) % 40 = z at hm ⊢
    have : ∀ z, z < 40 → ln (38 + 1 + z) = 106 := by decide +kernel
    exact this z hm
  rw [rr_g (by show _ < 40; omega), show (0 : Int32) = nI 0 from rfl, show (106 : Int32) = nI 106 from rfl, ac_g (by decide) (by omega), pf_s, cpy_ne (by omega), e3, nI_1]
theorem C_keep {S : St} {n : Nat} {h : Nat → Rw} {r : Rw} (hn : n ≤ 40) (hh : HC S 36 n h) (hr : ag (S 37) r) : ok (fX4_keepAct 36 S) (fun S' => HC S' 36 (pN n) (pH n h r) ∧ S' 36 4 = S 36 4 ∧ ∀ a, a ≠ 36 → (a < 39 ∨ 78 < a) → S' a = S a) := by
  obtain ⟨o, o4, e3, e2, ej⟩ := hh
  have ej' : ∀ j, j < n → ag (S (39 + (o + j) % 40)) (h j) := ej
  have cpag : ∀ (T : St) (m : Nat), T 37 = S 37 → m ≠ 37 → ag (cpy T 37 0 m 0 106 m) r := by
    intro T m h1 h2 i hi
    rw [cpy_row, pk_cpy_in (by omega) (by omega), h1, ← hr i hi]; congr 1; omega
  unfold fX4_keepAct
  by_cases c : n < 40
  · have hm := Nat.mod_lt (o + n) (by decide : 40 > 0)
    rw [e3, show (40 : Int32) = nI 40 from rfl, if_pos (nI_lt c (by decide)), C_keep28 c o4 e3 e2]
    refine ok_some ⟨⟨o, o4, ?_, ?_, fun j hj => ?_⟩, ?_, fun a h1 h2 => ?_⟩
    · rw [up_at]; unfold pN; rw [if_pos c]
    · rw [up_off (by decide), cpy_ne (by omega)]; exact e2
    · unfold pN at hj
      rw [if_pos c] at hj
      unfold pH
      rw [if_pos c, show 36 + 3 + (o + j) % 40 = 39 + (o + j) % 40 by omega, up_ne (by omega)]
      have hmj := Nat.mod_lt (o + j) (by decide : 40 > 0)
      show ag _ (if j = n then r else h j)
      by_cases e : j = n
      · subst e; rw [if_pos rfl]; exact cpag S _ rfl (by omega)
      · rw [if_neg e, cpy_ne (by omega)]; exact ej' j (by omega)
    · rw [up_off (by decide), cpy_ne (by omega)]
    · rw [up_ne h1, cpy_ne (by omega)]
  · have n40 : n = 40 := by omega
    subst n40
    have hm1 := Nat.mod_lt (o + 1) (by decide : 40 > 0)
    rw [e3, if_neg (by decide), e2, nI_1, show (40 : Int32) = nI 40 from rfl, rm_n (by omega) (by decide) (by decide), pf_s, pf_s]
    generalize hT : up (up S 36 2 (nI ((o + 1) % 40))) 36 3 39 = T
    have t37 : T 37 = S 37 := by rw [← hT, up_ne (by decide), up_ne (by decide)]
    rw [C_keep28 (S := T) (n := 39) (o := (o + 1) % 40) (by decide) (by omega) (by rw [← hT, up_at]; rfl) (by rw [← hT, up_off (by decide), up_at])]
    have hlast : ((o + 1) % 40 + 39) % 40 = o := by omega
    rw [hlast]
    refine ok_some ⟨⟨(o + 1) % 40, by omega, ?_, ?_, fun j hj => ?_⟩, ?_, fun a h1 h2 => ?_⟩
    · rw [up_at]; rfl
    · rw [up_off (by decide), cpy_ne (by omega), ← hT, up_off (by decide), up_at]
    · have hj4 : j < 40 := hj
      unfold pH
      rw [if_neg (by decide), show 36 + 3 + ((o + 1) % 40 + j) % 40 = 39 + ((o + 1) % 40 + j) % 40 by omega, up_ne (by omega)]
      show ag _ (if j = 39 then r else h (j + 1))
      by_cases e : j = 39
      · subst e
        rw [if_pos rfl, hlast]
        exact cpag T _ t37 (by omega)
      · rw [if_neg e, cpy_ne (by omega), ← hT, up_ne (by omega), up_ne (by omega)]
        have := ej' (j + 1) (by omega)
        rw [show ((o + 1) % 40 + j) % 40 = (o + (j + 1)) % 40 by omega]
        exact this
    · rw [up_off (by decide), cpy_ne (by omega), ← hT, up_off (by decide), up_off (by decide)]
    · rw [up_ne h1, cpy_ne (by omega), ← hT, up_ne h1, up_ne h1]
theorem M_keep52 {S : St} {n : Nat} (hn : n < 40) (e : S 142 36 = nI n) : BX10_keep_52 S = some (up (row S 163 (pkd S 163 (106 * n))) 142 36 (nI (n + 1))) := by
  unfold BX10_keep_52
  rw [e, show (106 : Int32) = nI 106 from rfl, pk_mul, M_pack (a := 163) (f := 106 * n) (by omega) (by rw [ln163]; omega), bv_s, pf_s, row_ne (by decide), e, nI_1]
theorem M_keep {V : Vy} (hV : VOk V) {S : St} {n : Nat} {h : Nat → Rw} {r : Rw} (hn : n ≤ 40) (hh : HM V (S 163) (S 142 36) n h) (hr : rg V (mr S) r) : ok (fX10_keep S) (fun S' => HM V (S' 163) (S' 142 36) (pN n) (pH n h r) ∧ mr S' = mr S ∧ (∀ a, a ≠ 142 → a ≠ 163 → S' a = S a) ∧ ∀ j, j ≠ 36 → S' 142 j = S 142 j) := by
  obtain ⟨e, ej⟩ := hh
  have mrr : ∀ (T : St) (f x), mr (up (row T 163 f) 142 36 x) = mr T := fun T f x => by
    rw [mr_up (by omega) (by omega)]; exact mr_cell (fun a ha => row_ne (by omega))
  unfold fX10_keep
  by_cases c : n < 40
  · rw [e, show (40 : Int32) = nI 40 from rfl, if_neg (by rw [nI_eq (by omega) (by decide)]; omega), M_keep52 c e]
    refine ok_some ⟨⟨?_, fun j hj i hi => ?_⟩, mrr _ _ _, fun a h1 h2 => by rw [up_ne h1, row_ne h2], fun j hj => by rw [up_off hj, row_ne (by decide)]⟩
    · rw [up_at]; unfold pN; rw [if_pos c]
    · have hi6 := rl_lt hV hi
      unfold pN at hj
      rw [if_pos c] at hj
      rw [up_ne (by decide), row_at]
      unfold pkd pH
      rw [if_pos c]
      show _ = (if j = n then r else h j) i
      by_cases e : j = n
      · subst e
        rw [if_pos (by omega), if_pos rfl, ← hr i hi, show 106 * j + i - 106 * j = i by omega]
      · rw [if_neg (by omega), if_neg e]; exact ej j (by omega) i hi
  · have n40 : n = 40 := by omega
    subst n40
    rw [e, if_pos (by rfl)]
    have key : ok (LX10_keep_12 FU (nI 106) S) (fun T => T = up (row (up (row S 163 (fun j => if j < 4134 then S 163 (j + 106) else S 163 j)) 142 36 (nI 39)) 163 (pkd (up (row S 163 (fun j => if j < 4134 then S 163 (j + 106) else S 163 j)) 142 36 (nI 39)) 163 (106 * 39))) 142 36 (nI 40)) := by
      refine ok_for (fun k i T => LX10_keep_12 k (nI i) T) _ (fun i T => 106 ≤ i ∧ T = row S 163 (fun j => if j + 106 < i then S 163 (j + 106) else S 163 j)) 4240 ?_ ?_ FU 106 S (by omega) (by decide) ⟨by decide, ?_⟩
      · intro k T hI0
        have hI := hI0.2
        have hI2 : T = row S 163 (fun j => if j < 4134 then S 163 (j + 106) else S 163 j) := by
          rw [hI]
          congr 1
          funext j
          by_cases c2 : j < 4134
          · rw [if_pos c2, if_pos (by omega)]
          · rw [if_neg c2, if_neg (by omega)]
        simp (disch := omega) only [LX10_keep_12, KX10_keep_12, nI_leE, nI_ltE, nI_eqE, nI_m1, c0a, c0b, c0c, c0d, c0e, c1a, c1b, c1c, c1d, c1e, c2a, c2b, c2c, c2d, c2e, c3a, c3b, c3c, c3d, c3e, c4a, c4b, c4c, c4d, c4e, c5a, c5b, c5c, c5d, c5e, c6a, c6b, c6c, c6d, c6e, c7a, c7b, c7c, c7d, c7e, c8a, c8b, c8c, c8d, c8e, c9a, c9b, c9c, c9d, c9e, c10a, c10b, c10c, c10d, c10e, c12a, c12b, c12c, c12d, c12e, c14a, c14b, c14c, c14d, c14e, c16a, c16b, c16c, c16d, c16e, c20a, c20b, c20c, c20d, c20e, c30a, c30b, c30c, c30d, c30e, c32a, c32b, c32c, c32d, c32e, c36a, c36b, c36c, c36d, c36e, c40a, c40b, c40c, c40d, c40e, c41a, c41b, c41c, c41d, c41e, c42a, c42b, c42c, c42d, c42e, c43a, c43b, c43c, c43d, c43e, c45a, c45b, c45c, c45d, c45e, c47a, c47b, c47c, c47d, c47e, c48a, c48b, c48c, c48d, c48e, c57a, c57b, c57c, c57d, c57e, c59a, c59b, c59c, c59d, c59e, c60a, c60b, c60c, c60d, c60e, c61a, c61b, c61c, c61d, c61e, c62a, c62b, c62c, c62d, c62e, c64a, c64b, c64c, c64d, c64e, c96a, c96b, c96c, c96d, c96e, c97a, c97b, c97c, c97d, c97e, c98a, c98b, c98c, c98d, c98e, c99a, c99b, c99c, c99d, c99e, c100a, c100b, c100c, c100d, c100e, c122a, c122b, c122c, c122d, c122e, c700a, c700b, c700c, c700d, c700e, c4240a, c4240b, c4240c, c4240d, c4240e, c9999a, c9999b, c9999c, c9999d, c9999e, c100000a, c100000b, c100000c, c100000d, c100000e, c1000000a, c1000000b, c1000000c, c1000000d, c1000000e, if_T, bd_s, bv_s, bt_s, bt_x, vl_s, pf_s, ri_s, rz_0, rz_1, tri_s, trz_0, trz_1, trx_s, pz_0, pz_1, nI_add, pk_mul, up_at, la2, la5, la6, la8, la14, la62, la64, la98, la700, ra1, ra2, ra6, ra8, ra12, ra20, ra36, ra48, lm6, lm8, lm10, lm100, lm106, rm6, rm8, rm10, rm100, rm106]
        have e36 : T 142 36 - 1 = nI 39 := by rw [hI2, row_ne (by decide), e]; rfl
        rw [e36, M_keep52 (n := 39) (by decide) up_at, hI2]
        exact ok_some rfl
      · intro k i T hi hI0 ih
        obtain ⟨hge, hI⟩ := hI0
        subst hI
        have e106 : nI i - 106 = nI (i - 106) := by rw [show (106 : Int32) = nI 106 from rfl, pk_sub (by omega)]
        have hs : i < 4240 → 106 ≤ i → ok (LX10_keep_12 k (nI (i + 1)) (up (row S 163 (fun j => if j + 106 < i then S 163 (j + 106) else S 163 j)) 163 (i - 106) (row S 163 (fun j => if j + 106 < i then S 163 (j + 106) else S 163 j) 163 i))) (fun T => T = up (row (up (row S 163 (fun j => if j < 4134 then S 163 (j + 106) else S 163 j)) 142 36 (nI 39)) 163 (pkd (up (row S 163 (fun j => if j < 4134 then S 163 (j + 106) else S 163 j)) 142 36 (nI 39)) 163 (106 * 39))) 142 36 (nI 40)) := by
          intro h1 h2
          refine ih _ ⟨by omega, ?_⟩
          funext b
          by_cases hb : b = 163
          · subst hb
            rw [up_row, row_at, row_at]
            funext j
            unfold upd
            by_cases c3 : j = i - 106
            · rw [if_pos c3, if_neg (by omega), if_pos (by omega), c3, show i - 106 + 106 = i by omega]
            · rw [if_neg c3]
              show (if j + 106 < i then S 163 (j + 106) else S 163 j) = _
              by_cases c4 : j + 106 < i
              · rw [if_pos c4, if_pos (by omega)]
              · rw [if_neg c4, if_neg (by omega)]
          · rw [up_ne hb, row_ne hb, row_ne hb]
        have h106 : 106 ≤ i := hge
        simp (disch := omega) only [LX10_keep_12, KX10_keep_12, nI_leE, nI_ltE, nI_eqE, nI_m1, c0a, c0b, c0c, c0d, c0e, c1a, c1b, c1c, c1d, c1e, c2a, c2b, c2c, c2d, c2e, c3a, c3b, c3c, c3d, c3e, c4a, c4b, c4c, c4d, c4e, c5a, c5b, c5c, c5d, c5e, c6a, c6b, c6c, c6d, c6e, c7a, c7b, c7c, c7d, c7e, c8a, c8b, c8c, c8d, c8e, c9a, c9b, c9c, c9d, c9e, c10a, c10b, c10c, c10d, c10e, c12a, c12b, c12c, c12d, c12e, c14a, c14b, c14c, c14d, c14e, c16a, c16b, c16c, c16d, c16e, c20a, c20b, c20c, c20d, c20e, c30a, c30b, c30c, c30d, c30e, c32a, c32b, c32c, c32d, c32e, c36a, c36b, c36c, c36d, c36e, c40a, c40b, c40c, c40d, c40e, c41a, c41b, c41c, c41d, c41e, c42a, c42b, c42c, c42d, c42e, c43a, c43b, c43c, c43d, c43e, c45a, c45b, c45c, c45d, c45e, c47a, c47b, c47c, c47d, c47e, c48a, c48b, c48c, c48d, c48e, c57a, c57b, c57c, c57d, c57e, c59a, c59b, c59c, c59d, c59e, c60a, c60b, c60c, c60d, c60e, c61a, c61b, c61c, c61d, c61e, c62a, c62b, c62c, c62d, c62e, c64a, c64b, c64c, c64d, c64e, c96a, c96b, c96c, c96d, c96e, c97a, c97b, c97c, c97d, c97e, c98a, c98b, c98c, c98d, c98e, c99a, c99b, c99c, c99d, c99e, c100a, c100b, c100c, c100d, c100e, c122a, c122b, c122c, c122d, c122e, c700a, c700b, c700c, c700d, c700e, c4240a, c4240b, c4240c, c4240d, c4240e, c9999a, c9999b, c9999c, c9999d, c9999e, c100000a, c100000b, c100000c, c100000d, c100000e, c1000000a, c1000000b, c1000000c, c1000000d, c1000000e, if_F, rd145, rd146, rd147, rd148, rd149, rd150, rd151, rd152, rd153, rd154, rd155, rd156, rd157, rd158, rd159, rd160, rd161, rd162, rd163, rd164, rd165, rd166, rd167, rd168, rd169, rd170, rd171, rd172, rd173, rd174, rd175, rd176, rd177, rd178, rd179, rd180, rd181, rd182, rd183, rd184, rd185, rd145_0, rd145_2, rd145_3, rd145_4, rd145_5, rd145_6, rd145_7, rd156_0, rd156_1, rd166_0, rd178_0, e106, wr145, wr146, wr147, wr148, wr149, wr150, wr151, wr152, wr153, wr154, wr155, wr156, wr157, wr158, wr159, wr160, wr161, wr162, wr163, wr164, wr165, wr166, wr167, wr168, wr169, wr170, wr171, wr172, wr173, wr174, wr175, wr176, wr177, wr178, wr179, wr180, wr181, wr182, wr183, wr184, wr185, wr145_5, wr145_6, wr145_7, wr156_0, wr156_1, wr165_0, wr165_1, wr165_2, wr165_3, wr165_4, bd_s, bv_s, bt_s, bt_x, vl_s, pf_s, ri_s, rz_0, rz_1, tri_s, trz_0, trz_1, trx_s, pz_0, pz_1, nI_add, pk_mul, up_at, la2, la5, la6, la8, la14, la62, la64, la98, la700, ra1, ra2, ra6, ra8, ra12, ra20, ra36, ra48, lm6, lm8, lm10, lm100, lm106, rm6, rm8, rm10, rm100, rm106]
        exact hs hi h106
      · funext b
        by_cases hb : b = 163
        · subst hb; rw [row_at]; funext j; rw [if_neg (by omega)]
        · rw [row_ne hb]
    obtain ⟨T, eT, hT⟩ := key
    rw [show (106 : Int32) = nI 106 from rfl, eT, hT]
    refine ok_some ⟨⟨?_, fun j hj i hi => ?_⟩, ?_, fun a h1 h2 => ?_, fun j hj => ?_⟩
    · rw [up_at]; rfl
    · have hj4 : j < 40 := hj
      have hi6 := rl_lt hV hi
      rw [up_ne (by decide), row_at]
      show _ = (if j = 39 then r else h (j + 1)) i
      unfold pkd
      by_cases e9 : j = 39
      · subst e9
        rw [if_pos (by omega), if_pos rfl, mrr, ← hr i hi, show 106 * 39 + i - 106 * 39 = i by omega]
      · rw [if_neg (by omega), if_neg e9, up_ne (by decide), row_at, if_pos (by omega)]
        have := ej (j + 1) (by omega) i hi
        rw [← this, show 106 * j + i + 106 = 106 * (j + 1) + i by omega]
    · rw [mrr, mrr]
    · rw [up_ne h1, row_ne h2, up_ne h1, row_ne h2]
    · rw [up_off hj, row_ne (by decide), up_off hj, row_ne (by decide)]
