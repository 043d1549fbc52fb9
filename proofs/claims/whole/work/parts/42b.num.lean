/-! counts of bits, floor remainders -/
def bcE (a0 : Int32) : Int32 :=
  let x1 := a0 - (((a0.toUInt32 >>> ((1 : Int32).toUInt32 &&& Int32.toUInt32 31)).toInt32) &&& 1431655765)
  let x2 := (x1 &&& 858993459) + (((x1.toUInt32 >>> ((2 : Int32).toUInt32 &&& Int32.toUInt32 31)).toInt32) &&& 858993459)
  let x3 := (x2 + ((x2.toUInt32 >>> ((4 : Int32).toUInt32 &&& Int32.toUInt32 31)).toInt32)) &&& 252645135
  let x4 := x3 + ((x3.toUInt32 >>> ((8 : Int32).toUInt32 &&& Int32.toUInt32 31)).toInt32)
  let x5 := x4 + ((x4.toUInt32 >>> ((16 : Int32).toUInt32 &&& Int32.toUInt32 31)).toInt32)
  x5 &&& 63
theorem bc_s (x : Int32) (S : St) : fJ6_bitCount_0f7a4 x S = some (bcE x, S) := rfl
theorem bcE_N : ∀ k, k < 512 → bcE (nI k) = nI (pop k + k / 256) := by decide +kernel
theorem bc_n {k : Nat} (h : k < 256) (S : St) : fJ6_bitCount_0f7a4 (nI k) S = some (popI (nI k), S) := by
  rw [bc_s, bcE_N k (by omega)]
  unfold popI
  rw [nI_clamp (by omega), Nat.div_eq_of_lt h]
  rfl
theorem i_nn (x : Int32) : (0 ≤ x) = (x.toBitVec.msb = false) := by
  rw [Int32.le_iff_toBitVec_sle]
  simp [BitVec.sle_eq_decide, BitVec.msb_eq_toInt]
theorem xor_nn {x : Int32} {n : Nat} (h : n < 2 ^ 31) : (0 ≤ x ^^^ nI n) = (0 ≤ x) := by
  rw [i_nn, i_nn]
  have h2 : (nI n).toBitVec.msb = false := by rw [← i_nn]; exact nI_pos' h
  simp [h2]
theorem rmt_toInt {x : Int32} {n : Nat} (h0 : 0 < n) (h : n < 2 ^ 31) : (x - x / nI n * nI n).toInt = x.toInt.tmod n := by
  rw [rem_toInt, nI_toInt h]
theorem tmod_np {a : Int} {n : Nat} (h : a ≤ 0) : a.tmod n ≤ 0 := by
  have h1 := Int.tmod_nonneg (a := -a) (n : Int) (by omega)
  rw [Int.neg_tmod] at h1
  omega
theorem fm_n {x : Int32} {n : Nat} (h0 : 0 < n) (h : n < 2 ^ 31) (S : St) : fJ9_floorMod_7cf53 x (nI n) S = some (fmod x n, S) := by
  have e := rmt_toInt (x := x) h0 h
  unfold fJ9_floorMod_7cf53 rm' fmod
  rw [if_neg (nI_ne0 h0 h)]
  simp only [xor_nn h, ri_s]
  have z0 : (0 : Int32).toInt = 0 := rfl
  by_cases q : 0 ≤ x
  · rw [if_pos q, if_neg]
    intro hc
    rw [Int32.lt_iff_toInt_lt, e, z0] at hc
    rw [Int32.le_iff_toInt_le, z0] at q
    have := Int.tmod_nonneg (a := x.toInt) n q
    omega
  · rw [if_neg q]
    have q2 : x.toInt < 0 := by
      rw [Int32.le_iff_toInt_le, z0] at q
      omega
    have := tmod_np (a := x.toInt) (n := n) (by omega)
    by_cases c : x - x / nI n * nI n = 0
    · rw [if_pos c, if_neg]
      rw [c]
      decide
    · rw [if_neg c, if_pos]
      rw [Int32.lt_iff_toInt_lt, e, z0]
      have : x.toInt.tmod n ≠ 0 := fun hz => c (Int32.toInt_inj.mp (by rw [e, hz, z0]))
      omega
theorem fmod_lt {x : Int32} {n : Nat} (h0 : 0 < n) (h : n < 2 ^ 30) : ∃ t, t < n ∧ fmod x n = nI t := by
  have e := rmt_toInt (x := x) h0 (by omega)
  have h6 := Int.natAbs_tmod x.toInt n
  have h7 : (x.toInt.tmod n).natAbs < n := by rw [h6]; exact Nat.mod_lt _ (by simpa using h0)
  have z0 : (0 : Int32).toInt = 0 := rfl
  unfold fmod
  by_cases c : x - x / nI n * nI n < 0
  · rw [if_pos c]
    rw [Int32.lt_iff_toInt_lt, e, z0] at c
    refine ⟨(x.toInt.tmod n + n).toNat, by omega, ?_⟩
    apply Int32.toInt_inj.mp
    rw [Int32.toInt_add, e, nI_toInt (by omega), nI_toInt (by omega)]
    rw [Int.bmod_eq_of_le (by omega) (by omega)]
    omega
  · rw [if_neg c]
    rw [Int32.lt_iff_toInt_lt, e, z0] at c
    refine ⟨(x.toInt.tmod n).toNat, by omega, ?_⟩
    apply Int32.toInt_inj.mp
    rw [e, nI_toInt (by omega)]
    omega
