/-! arguments -/
theorem arg (a : Int32) {n : Nat} (h : n < 2 ^ 31) : (∃ s, s < n ∧ a = nI s) ∨ (a < 0 ∨ nI n ≤ a) := by
  rcases pk_ix a h with q | q | q
  · exact Or.inr (Or.inl q)
  · exact Or.inr (Or.inr q)
  · exact Or.inl q
theorem nlt_of {a : Int32} {n : Nat} (h : n < 2 ^ 31) (q : a < 0 ∨ nI n ≤ a) (h0 : ¬ a < 0) : ¬ a < nI n := by
  rcases q with q | q
  · exact absurd q h0
  · rw [Int32.lt_iff_toInt_lt]; rw [Int32.le_iff_toInt_le] at q; omega
theorem M_in (a lo hi : Int32) (S : St) : fX10_isIn a.toInt64 lo.toInt64 hi.toInt64 S = some (if lo ≤ a ∧ a ≤ hi then 1 else 0, S) := by
  unfold fX10_isIn
  simp only [lg_cmp_lt, lg_cmp_gt, Int64.lt_iff_toInt_lt, Int32.toInt_toInt64, Int32.le_iff_toInt_le]
  by_cases c : a.toInt < lo.toInt
  · rw [if_pos c, if_neg (by omega)]; rfl
  · rw [if_neg c]
    by_cases d : hi.toInt < a.toInt
    · rw [if_pos d, if_neg (by omega)]; rfl
    · rw [if_neg d, if_pos (by omega)]; rfl
theorem M_in_t {lo hi n : Nat} (h1 : lo ≤ n) (h2 : n ≤ hi) (hh : hi < 2 ^ 31) (S : St) : fX10_isIn (nI n).toInt64 (nI lo).toInt64 (nI hi).toInt64 S = some (1, S) := by
  rw [M_in, if_pos ⟨nI_le h1 (by omega), nI_le h2 hh⟩]
theorem M_in_f {a : Int32} {lo hi : Nat} (hh : hi < 2 ^ 30) (h : a < nI lo ∨ nI hi < a) (hl : lo < 2 ^ 30) (S : St) : fX10_isIn a.toInt64 (nI lo).toInt64 (nI hi).toInt64 S = some (0, S) := by
  rw [M_in, if_neg]
  rintro ⟨q1, q2⟩
  rw [Int32.le_iff_toInt_le] at q1 q2
  rw [Int32.lt_iff_toInt_lt, Int32.lt_iff_toInt_lt] at h
  omega
theorem arg2 (a : Int32) {lo hi : Nat} (hh : hi < 2 ^ 30) (hl : lo ≤ hi) : (∃ n, lo ≤ n ∧ n ≤ hi ∧ a = nI n) ∨ (a < nI lo ∨ nI hi < a) := by
  have e1 := nI_toInt (n := lo) (by omega)
  have e2 := nI_toInt (n := hi) (by omega)
  by_cases c : a < nI lo
  · exact Or.inr (Or.inl c)
  · by_cases d : nI hi < a
    · exact Or.inr (Or.inr d)
    · rw [Int32.lt_iff_toInt_lt] at c d
      refine Or.inl ⟨a.toInt.toNat, by omega, by omega, ?_⟩
      apply Int32.toInt_inj.mp
      rw [nI_toInt (by omega)]
      omega
theorem M_isF_t {V : Vy} {S : St} (hM : VM V S) {f : Nat} (hf : f < vF V) : fX10_isField (nI f) S = some (1, S) := by
  have hF := hM.1.1
  unfold fX10_isField
  simp only [rd145_0, hM.2.1]
  rw [show (0 : Int64) = (nI 0).toInt64 from rfl, show nI (vF V) - 1 = nI (vF V - 1) from by rw [show (1 : Int32) = nI 1 from rfl, pk_sub (by omega)], M_in_t (by omega) (by omega) (by omega)]
  rfl
theorem sub1_lt {a : Int32} {n : Nat} (h : n ≤ 8) : (a ≤ nI n - 1) = (a < nI n) := by
  have e := nI_toInt (n := n) (by omega)
  have e1 : (1 : Int32).toInt = 1 := rfl
  rw [Int32.le_iff_toInt_le, Int32.lt_iff_toInt_lt, i_sub (by omega) (by omega), e1]
  exact propext (by omega)
theorem M_isF_f {V : Vy} {S : St} (hM : VM V S) {a : Int32} (ha : a < 0 ∨ nI (vF V) ≤ a) : fX10_isField a S = some (0, S) := by
  have hF := hM.1.1
  unfold fX10_isField
  simp only [rd145_0, hM.2.1]
  rw [show (0 : Int64) = (0 : Int32).toInt64 from rfl, M_in, if_neg]
  · rfl
  · rintro ⟨q1, q2⟩
    rw [sub1_lt hF] at q2
    exact nlt_of (by omega) ha (by rw [Int32.lt_iff_toInt_lt]; rw [Int32.le_iff_toInt_le] at q1; omega) q2
theorem M_isS_t {V : Vy} {S : St} (hM : VM V S) {s : Nat} (hs : s < vS' V) : fX10_isSinger (nI s) S = some (1, S) := by
  have hF := hM.1.2.1
  unfold fX10_isSinger
  simp only [rd145_2, hM.2.2.1]
  rw [show (0 : Int64) = (nI 0).toInt64 from rfl, show nI (vS' V) - 1 = nI (vS' V - 1) from by rw [show (1 : Int32) = nI 1 from rfl, pk_sub (by omega)], M_in_t (by omega) (by omega) (by omega)]
  rfl
theorem M_isS_f {V : Vy} {S : St} (hM : VM V S) {a : Int32} (ha : a < 0 ∨ nI (vS' V) ≤ a) : fX10_isSinger a S = some (0, S) := by
  have hF := hM.1.2.1
  unfold fX10_isSinger
  simp only [rd145_2, hM.2.2.1]
  rw [show (0 : Int64) = (0 : Int32).toInt64 from rfl, M_in, if_neg]
  · rfl
  · rintro ⟨q1, q2⟩
    rw [sub1_lt (by omega)] at q2
    exact nlt_of (by omega) ha (by rw [Int32.lt_iff_toInt_lt]; rw [Int32.le_iff_toInt_le] at q1; omega) q2
section NEED
variable {V : Vy} {v d : Nat} {S : St}
theorem Rl.hv (h : Rl V v d S) : v = 2 ∨ v = 17 := h.2.2.2.1.1.2.1
theorem Rl.C (h : Rl V v d S) : VC V v S := h.2.2.2.1.1
theorem Rl.M (h : Rl V v d S) : VM V S := h.2.2.2.1.2.1
theorem Rl.X (h : Rl V v d S) : VX V v S := h.2.2.2.1.2.2
theorem Rl.vk (h : Rl V v d S) : VOk V := h.C.1
theorem Rl.st (h : Rl V v d S) : SR V S 36 (mr S) (S 163) (S 142 36) (S 142 37) (S 173) (S 174) (S 175) (S 156) := h.2.2.2.2.1
theorem Rl.rag (h : Rl V v d S) : rg V (S 37) (mr S) := h.st.1
theorem Rl.rok (h : Rl V v d S) : ROk V 10000 (S 37) := h.st.2.1
theorem Rl.mok (h : Rl V v d S) : ROk V 10000 (mr S) := rg_ROk h.vk h.rag h.rok
theorem Rl.z (h : Rl V v d S) : S 142 41 = -1 := h.2.2.2.2.2.2.2.1
theorem C_nF_t (h : Rl V v d S) {f : Nat} (hf : f < vF V) : fX9_needField (nI f) S = some (.inl 0, S) := by
  have hF := h.vk.1
  unfold fX9_needField
  rw [if_neg (nI_pos (by omega)), gm_v h.2.1 h.hv, h.C.2.2.1, if_pos (nI_lt hf (by omega))]
  rfl
theorem C_nF_f (h : Rl V v d S) {a : Int32} (ha : a < 0 ∨ nI (vF V) ≤ a) : fX9_needField a S = some (.inr 1, S) := by
  have hF := h.vk.1
  unfold fX9_needField
  by_cases c : a < 0
  · rw [if_pos c]; rfl
  · rw [if_neg c, gm_v h.2.1 h.hv, h.C.2.2.1, if_neg (nlt_of (by omega) ha c)]; rfl
theorem C_nS_t (h : Rl V v d S) {f : Nat} (hf : f < vS' V) : fX9_needSinger (nI f) S = some (.inl 0, S) := by
  have hF := h.vk.2.1
  unfold fX9_needSinger
  rw [if_neg (nI_pos (by omega)), gm_v h.2.1 h.hv, h.C.2.2.2.1, if_pos (nI_lt hf (by omega))]
  rfl
theorem C_nS_f (h : Rl V v d S) {a : Int32} (ha : a < 0 ∨ nI (vS' V) ≤ a) : fX9_needSinger a S = some (.inr 1, S) := by
  have hF := h.vk.2.1
  unfold fX9_needSinger
  by_cases c : a < 0
  · rw [if_pos c]; rfl
  · rw [if_neg c, gm_v h.2.1 h.hv, h.C.2.2.2.1, if_neg (nlt_of (by omega) ha c)]; rfl
theorem C_nW_t {k m : Nat} (h : k ≤ m) (hm : m < 2 ^ 30) : fX9_needWhat (nI k) (nI m) S = some (.inl 0, S) := by
  unfold fX9_needWhat
  rw [if_neg (nI_pos (by omega)), if_pos (nI_le h (by omega))]; rfl
theorem C_nW_f {a : Int32} {m : Nat} (hm : m < 2 ^ 30) (h : a < nI 0 ∨ nI m < a) : fX9_needWhat a (nI m) S = some (.inr 1, S) := by
  unfold fX9_needWhat
  by_cases c : a < 0
  · rw [if_pos c]; rfl
  · rw [if_neg c, if_neg]
    · rfl
    · intro q
      rcases h with h | h
      · exact c h
      · rw [Int32.lt_iff_toInt_lt] at h; rw [Int32.le_iff_toInt_le] at q; omega
theorem C_nH_t {k l : Nat} (h : l ≤ k) (hm : k ≤ 60) : fX9_needHours (nI k) (nI l) S = some (.inl 0, S) := by
  unfold fX9_needHours
  rw [if_neg (nI_nlt h (by omega)), show (60 : Int32) = nI 60 from rfl, if_pos (nI_le hm (by omega))]; rfl
theorem C_nH_f {a : Int32} {l : Nat} (h : a < nI l ∨ nI 60 < a) : fX9_needHours a (nI l) S = some (.inr 2, S) := by
  unfold fX9_needHours
  by_cases c : a < nI l
  · rw [if_pos c]; rfl
  · rw [if_neg c, show (60 : Int32) = nI 60 from rfl, if_neg]
    · rfl
    · intro q
      rcases h with h | h
      · exact c h
      · rw [Int32.lt_iff_toInt_lt] at h; rw [Int32.le_iff_toInt_le] at q; omega
end NEED
/-! looking ahead: the class -/
theorem C_ahead {V : Vy} {v d n : Nat} {S : St} (h : Rl V v d S) (hn : n ≤ 60) : ∃ S1 S2, fX0_begin v 37 S = some S1 ∧ fX0_go (nI n) S1 = some S2 ∧ ag (S2 131) (hrs V (S 37) n) ∧ (∀ m, n = m + 1 → ∀ s, s < vS' V → S2 132 s = pl V (hrs V (S 37) m) s ∧ S2 133 s = sgI V (hrs V (S 37) m) s) ∧ (∀ s, s < vS' V → S2 134 s = nI (trB V (S 37) s n)) ∧ (∀ t, t < vF V → S2 135 t = nI (trT V (S 37) t n)) ∧ S2 130 0 = nI v ∧ cFr S S2 := by
  have hV := h.vk
  have hS6 := hV.2.1
  have hF8 := hV.1
  obtain ⟨S1, e1, b1, b2, b3, b4, b5⟩ := C_begin (a2 := 37) h.C rfl (by decide) h.rok (by decide)
  obtain ⟨S2, e2, g1, g2, g3, g4, g5, g6⟩ := C_go (n := n) b2.1 b2.2.1 b2.2.2.1 hn (by omega)
  have hr1 := b2.2.2.1
  refine ⟨S1, S2, e1, e2, ?_, fun m hm s hs => ?_, fun s hs => ?_, fun t ht => ?_, by rw [g5]; exact b2.2.1, fun a h1 h2 h3 h4 h5 => (g6 a h1 h2 h3 h4 h5).trans (b5 a h1 h2 h3 h4 h5)⟩
  · rw [g1]; exact ag_hrs hV b1 hr1 n (by omega)
  · obtain ⟨k1, k2⟩ := g2 m hm s hs
    have a1 := ag_hrs hV b1 hr1 m (by omega)
    exact ⟨by rw [k1, ag_pl hV a1 hs], by rw [k2, ag_sgI hV a1 (hrs_ok hr1 hV m (by omega)).1 (by omega) hs]⟩
  · rw [g3 s hs, b3 s (by omega), ag_trB hV b1 hr1 hs n (by omega)]; simp
  · rw [g4 t ht, b4 t (by omega), ag_trT hV b1 hr1 n (by omega)]; simp
/-! looking ahead: the reference -/
theorem M_back {S S2 : St} (h : mFr (row S 169 (pkd S 169 0)) S2) : ok (fX10_unpack 169 0 S2) (fun S3 => mK S S3 ∧ (∀ a, 162 < a → S3 a = S2 a) ∧ ∀ j, j ≠ 34 → j ≠ 35 → S3 142 j = S2 142 j) := by
  refine ok_mono (M_unpack (a := 169) (f := 0) (S := S2) (by omega) (by decide)) (fun T hT => ?_)
  obtain ⟨h1, h2, h3⟩ := hT
  have e169 : S2 169 = pkd S 169 0 := by rw [h.1 169 (by omega), row_at]
  refine ⟨⟨fun i hi => ?_, fun a ha => ?_, fun j hj => ?_⟩, fun a ha => h2 a (by omega) (by omega), h3⟩
  · rw [h1 i hi, e169]
    unfold pkd
    rw [if_pos (by omega)]
    congr 1; omega
  · rw [h2 a (by omega) (by omega), h.1 a (by omega), row_ne (by omega)]
  · rw [h3 j (by omega) (by omega), h.2 j (by omega) (by omega), row_ne (by decide)]
/-- the start of a reference's call, its row laid by -/
theorem M_lay {V : Vy} {v d : Nat} {S : St} (h : Rl V v d S) : ∃ S1, fX10_pack 169 0 (up S 142 3 0) = some S1 ∧ S1 = row (up S 142 3 0) 169 (pkd (up S 142 3 0) 169 0) ∧ VM V S1 ∧ mr S1 = mr S ∧ ROk V 10000 (mr S1) ∧ S1 142 41 = -1 ∧ S1 142 3 = 0 := by
  refine ⟨_, M_pack (a := 169) (f := 0) (by omega) (by decide), rfl, ?_, ?_, ?_, ?_, ?_⟩
  · exact h.M.go (fun a ha => by rw [row_ne (by omega), up_ne (by omega)])
  · rw [mr_cell (S := up S 142 3 0) (fun a ha => row_ne (by omega)), mr_up (by omega) (by omega)]
  · rw [mr_cell (S := up S 142 3 0) (fun a ha => row_ne (by omega)), mr_up (by omega) (by omega)]; exact h.mok
  · rw [row_ne (by decide), up_off (by decide)]; exact h.z
  · rw [row_ne (by decide), up_at]
theorem mK0 {S : St} : mK S (up S 142 3 0) := mK.rf.up (by omega)
theorem mKx {S : St} {x : Int32} : mK S (up (up S 142 3 0) 142 3 x) := mK0.up (by omega)
