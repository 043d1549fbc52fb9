/-! rows with which simp runs the functions -/
theorem rd_g {β : Type} {S : St} {a n : Nat} {k : Int32 → Option β} (hn : n < ln a) : rd S a (nI n) k = k (S a n) := by
  have h5 := ln_lt a
  unfold rd
  rw [nI_clamp (by omega), if_neg (by rintro (q | q); exact nI_pos (by omega) q; omega)]
theorem wr_g {β : Type} {S : St} {a n : Nat} {v : Int32} {k : St → Option β} (hn : n < ln a) : wr S a (nI n) v k = k (up S a n v) := by
  have h5 := ln_lt a
  unfold wr
  rw [nI_clamp (by omega), if_neg (by rintro (q | q); exact nI_pos (by omega) q; omega)]
theorem wb_g {β : Type} {S : St} {a n : Nat} {v : Int32} {k : St → Option β} (hn : n < ln a) : wb S a (nI n) v k = k (up S a n v.toInt8.toInt32) := by
  have h5 := ln_lt a
  unfold wb
  rw [nI_clamp (by omega), if_neg (by rintro (q | q); exact nI_pos (by omega) q; omega)]
theorem rr_g {β : Type} {a n : Nat} {k : Nat → Option β} (hn : n < ln a) : rr a (nI n) k = k (a + 1 + n) := by
  have h5 := ln_lt a
  unfold rr
  rw [nI_clamp (by omega), if_neg (by rintro (q | q); exact nI_pos (by omega) q; omega)]
theorem ac_g {β : Type} {S : St} {a0 a i j m : Nat} {k : St → Option β} (h4 : i + m ≤ ln a0) (h5 : j + m ≤ ln a) : ac S a0 (nI i) a (nI j) (nI m) k = k (cpy S a0 i a j m) := by
  have l0 := ln_lt a0
  have l1 := ln_lt a
  unfold ac
  rw [nI_clamp (by omega), nI_clamp (by omega), nI_clamp (by omega), if_neg]
  rintro (q | q | q | q | q)
  · exact nI_pos (by omega) q
  · exact nI_pos (by omega) q
  · exact nI_pos (by omega) q
  · omega
  · omega
theorem gm_g {β : Type} {S : St} {a i c q : Nat} {k : Nat → Option β} (hs : S a i = nI q) (hq : kd q = c) (hc : c < 99) : gm S a i c k = k q := by
  have hl := kd_lt hq hc
  have hN : NC < 2 ^ 31 := by decide
  have hx : ix (S a i) = q := by rw [hs]; exact nI_clamp (by omega)
  unfold gm
  rw [hx, if_pos hq]
theorem gm_v {β : Type} {S : St} {a i v : Nat} {k : Nat → Option β} (hs : S a i = nI v) (hv : v = 2 ∨ v = 17) : gm S a i 8 k = k v := gm_g hs (by rcases hv with rfl | rfl <;> rfl) (by decide)
theorem bd_s {β : Type} {r : Int32} {S : St} {k : Int32 → St → Option β} : bd (some (r, S)) k = k r S := rfl
theorem bv_s {β : Type} {S : St} {k : St → Option β} : bv (some S) k = k S := rfl
theorem bt_s {r : Int32} {S : St} {k : Int32 → St → Option TR} : bt (some (.inl r, S)) k = k r S := rfl
theorem bt_x {en : Nat} {S : St} {k : Int32 → St → Option TR} : bt (some (.inr en, S)) k = some (.inr en, S) := rfl
theorem vl_s {β : Type} {x : Int32} {k : Int32 → Option β} : vl x k = k x := rfl
theorem pf_s {β : Type} {S : St} {a i : Nat} {v : Int32} {k : St → Option β} : pf S a i v k = k (up S a i v) := rfl
theorem ri_s {v : Int32} {S : St} : ri v S = some (v, S) := rfl
theorem rz_0 {S : St} : rz 0 S = some (0, S) := rfl
theorem rz_1 {S : St} : rz 1 S = some (1, S) := rfl
theorem tri_s {v : Int32} {S : St} : tri v S = some (.inl v, S) := rfl
theorem trz_0 {S : St} : trz 0 S = some (.inl 0, S) := rfl
theorem trz_1 {S : St} : trz 1 S = some (.inl 1, S) := rfl
theorem trx_s {en : Nat} {S : St} : trx en S = some (.inr en, S) := rfl
theorem pz_0 {β : Type} {S : St} {a i : Nat} {k : St → Option β} : pz S a i 0 k = k (up S a i 0) := rfl
theorem pz_1 {β : Type} {S : St} {a i : Nat} {k : St → Option β} : pz S a i 1 k = k (up S a i 1) := rfl
theorem rm_n {β : Type} {a b : Nat} {k : Int32 → Option β} (ha : a < 2 ^ 31) (hb0 : 0 < b) (hb : b < 2 ^ 31) : rm' (nI a) (nI b) k = k (nI (a % b)) := by
  unfold rm'
  rw [if_neg (nI_ne0 hb0 hb), pk_rem ha hb0 hb]
theorem dv_n {β : Type} {a b : Nat} {k : Int32 → Option β} (ha : a < 2 ^ 31) (hb0 : 0 < b) (hb : b < 2 ^ 31) : dv (nI a) (nI b) k = k (nI (a / b)) := by
  unfold dv
  rw [if_neg (nI_ne0 hb0 hb), pk_div ha hb0 hb]
theorem nI_m1 {n : Nat} (h : n < 2 ^ 31) : (nI n = -1) = False := eq_false (nI_ne_m1 h)
theorem nI_leE {a b : Nat} (ha : a < 2 ^ 31) (hb : b < 2 ^ 31) : (nI a ≤ nI b) = (a ≤ b) := propext (nI_leI ha hb)
theorem nI_ltE {a b : Nat} (ha : a < 2 ^ 31) (hb : b < 2 ^ 31) : (nI a < nI b) = (a < b) := propext (nI_ltI ha hb)
theorem nI_eqE {a b : Nat} (ha : a < 2 ^ 31) (hb : b < 2 ^ 31) : (nI a = nI b) = (a = b) := propext (nI_eq ha hb)
theorem up_2 {S : St} {a i : Nat} {v : Int32} {b j : Nat} : up S a i v b j = if b = a ∧ j = i then v else S b j := by
  unfold up upd
  by_cases h : b = a
  · subst h
    by_cases q : j = i
    · rw [if_pos rfl, if_pos q, if_pos ⟨rfl, q⟩]
    · rw [if_pos rfl, if_neg q, if_neg (fun z => q z.2)]
  · rw [if_neg h, if_neg (fun z => h z.1)]
theorem if_T {α : Type} {c : Prop} [Decidable c] {x y : α} (h : c) : (if c then x else y) = x := if_pos h
theorem if_F {α : Type} {c : Prop} [Decidable c] {x y : α} (h : ¬ c) : (if c then x else y) = y := if_neg h
theorem kdv {v : Nat} (hv : v = 2 ∨ v = 17) : kd v = 8 := by rcases hv with rfl | rfl <;> rfl
theorem srv3 {v : Nat} (hv : v = 2 ∨ v = 17) : sr v 3 = v + 1 := by rcases hv with rfl | rfl <;> rfl
theorem srv4 {v : Nat} (hv : v = 2 ∨ v = 17) : sr v 4 = v + 2 := by rcases hv with rfl | rfl <;> rfl
theorem srv5 {v : Nat} (hv : v = 2 ∨ v = 17) : sr v 5 = v + 3 := by rcases hv with rfl | rfl <;> rfl
theorem srv6 {v : Nat} (hv : v = 2 ∨ v = 17) : sr v 6 = v + 4 := by rcases hv with rfl | rfl <;> rfl
theorem srv7 {v : Nat} (hv : v = 2 ∨ v = 17) : sr v 7 = v + 5 := by rcases hv with rfl | rfl <;> rfl
theorem srv8 {v : Nat} (hv : v = 2 ∨ v = 17) : sr v 8 = v + 6 := by rcases hv with rfl | rfl <;> rfl
theorem srv9 {v : Nat} (hv : v = 2 ∨ v = 17) : sr v 9 = v + 7 := by rcases hv with rfl | rfl <;> rfl
theorem srv10 {v : Nat} (hv : v = 2 ∨ v = 17) : sr v 10 = v + 8 := by rcases hv with rfl | rfl <;> rfl
theorem srv11 {v : Nat} (hv : v = 2 ∨ v = 17) : sr v 11 = v + 9 := by rcases hv with rfl | rfl <;> rfl
theorem la2 (s : Nat) : (2 : Int32) + nI s = nI (2 + s) := nI_add 2 s
theorem la5 (s : Nat) : (5 : Int32) + nI s = nI (5 + s) := nI_add 5 s
theorem la6 (s : Nat) : (6 : Int32) + nI s = nI (6 + s) := nI_add 6 s
theorem la8 (s : Nat) : (8 : Int32) + nI s = nI (8 + s) := nI_add 8 s
theorem la14 (s : Nat) : (14 : Int32) + nI s = nI (14 + s) := nI_add 14 s
theorem la62 (s : Nat) : (62 : Int32) + nI s = nI (62 + s) := nI_add 62 s
theorem la64 (s : Nat) : (64 : Int32) + nI s = nI (64 + s) := nI_add 64 s
theorem la98 (s : Nat) : (98 : Int32) + nI s = nI (98 + s) := nI_add 98 s
theorem la700 (s : Nat) : (700 : Int32) + nI s = nI (700 + s) := nI_add 700 s
theorem ra1 (s : Nat) : nI s + 1 = nI (s + 1) := nI_add s 1
theorem ra2 (s : Nat) : nI s + 2 = nI (s + 2) := nI_add s 2
theorem ra6 (s : Nat) : nI s + 6 = nI (s + 6) := nI_add s 6
theorem ra8 (s : Nat) : nI s + 8 = nI (s + 8) := nI_add s 8
theorem ra12 (s : Nat) : nI s + 12 = nI (s + 12) := nI_add s 12
theorem ra20 (s : Nat) : nI s + 20 = nI (s + 20) := nI_add s 20
theorem ra36 (s : Nat) : nI s + 36 = nI (s + 36) := nI_add s 36
theorem ra48 (s : Nat) : nI s + 48 = nI (s + 48) := nI_add s 48
theorem lm6 (s : Nat) : (6 : Int32) * nI s = nI (6 * s) := pk_mul 6 s
theorem rm6 (s : Nat) : nI s * 6 = nI (s * 6) := pk_mul s 6
theorem lm8 (s : Nat) : (8 : Int32) * nI s = nI (8 * s) := pk_mul 8 s
theorem rm8 (s : Nat) : nI s * 8 = nI (s * 8) := pk_mul s 8
theorem lm10 (s : Nat) : (10 : Int32) * nI s = nI (10 * s) := pk_mul 10 s
theorem rm10 (s : Nat) : nI s * 10 = nI (s * 10) := pk_mul s 10
theorem lm100 (s : Nat) : (100 : Int32) * nI s = nI (100 * s) := pk_mul 100 s
theorem rm100 (s : Nat) : nI s * 100 = nI (s * 100) := pk_mul s 100
theorem lm106 (s : Nat) : (106 : Int32) * nI s = nI (106 * s) := pk_mul 106 s
theorem rm106 (s : Nat) : nI s * 106 = nI (s * 106) := pk_mul s 106
theorem c0a {b : Nat} (hb : b < 2 ^ 31) : ((0 : Int32) ≤ nI b) = (0 ≤ b) := nI_leE (a := 0) (by decide) hb
theorem c0b {b : Nat} (hb : b < 2 ^ 31) : ((0 : Int32) < nI b) = (0 < b) := nI_ltE (a := 0) (by decide) hb
theorem c0c {b : Nat} (hb : b < 2 ^ 31) : (nI b ≤ (0 : Int32)) = (b ≤ 0) := nI_leE (b := 0) hb (by decide)
theorem c0d {b : Nat} (hb : b < 2 ^ 31) : (nI b < (0 : Int32)) = (b < 0) := nI_ltE (b := 0) hb (by decide)
theorem c0e {b : Nat} (hb : b < 2 ^ 31) : (nI b = (0 : Int32)) = (b = 0) := nI_eqE (b := 0) hb (by decide)
theorem c1a {b : Nat} (hb : b < 2 ^ 31) : ((1 : Int32) ≤ nI b) = (1 ≤ b) := nI_leE (a := 1) (by decide) hb
theorem c1b {b : Nat} (hb : b < 2 ^ 31) : ((1 : Int32) < nI b) = (1 < b) := nI_ltE (a := 1) (by decide) hb
theorem c1c {b : Nat} (hb : b < 2 ^ 31) : (nI b ≤ (1 : Int32)) = (b ≤ 1) := nI_leE (b := 1) hb (by decide)
theorem c1d {b : Nat} (hb : b < 2 ^ 31) : (nI b < (1 : Int32)) = (b < 1) := nI_ltE (b := 1) hb (by decide)
theorem c1e {b : Nat} (hb : b < 2 ^ 31) : (nI b = (1 : Int32)) = (b = 1) := nI_eqE (b := 1) hb (by decide)
theorem c2a {b : Nat} (hb : b < 2 ^ 31) : ((2 : Int32) ≤ nI b) = (2 ≤ b) := nI_leE (a := 2) (by decide) hb
theorem c2b {b : Nat} (hb : b < 2 ^ 31) : ((2 : Int32) < nI b) = (2 < b) := nI_ltE (a := 2) (by decide) hb
theorem c2c {b : Nat} (hb : b < 2 ^ 31) : (nI b ≤ (2 : Int32)) = (b ≤ 2) := nI_leE (b := 2) hb (by decide)
theorem c2d {b : Nat} (hb : b < 2 ^ 31) : (nI b < (2 : Int32)) = (b < 2) := nI_ltE (b := 2) hb (by decide)
theorem c2e {b : Nat} (hb : b < 2 ^ 31) : (nI b = (2 : Int32)) = (b = 2) := nI_eqE (b := 2) hb (by decide)
theorem c3a {b : Nat} (hb : b < 2 ^ 31) : ((3 : Int32) ≤ nI b) = (3 ≤ b) := nI_leE (a := 3) (by decide) hb
theorem c3b {b : Nat} (hb : b < 2 ^ 31) : ((3 : Int32) < nI b) = (3 < b) := nI_ltE (a := 3) (by decide) hb
theorem c3c {b : Nat} (hb : b < 2 ^ 31) : (nI b ≤ (3 : Int32)) = (b ≤ 3) := nI_leE (b := 3) hb (by decide)
theorem c3d {b : Nat} (hb : b < 2 ^ 31) : (nI b < (3 : Int32)) = (b < 3) := nI_ltE (b := 3) hb (by decide)
theorem c3e {b : Nat} (hb : b < 2 ^ 31) : (nI b = (3 : Int32)) = (b = 3) := nI_eqE (b := 3) hb (by decide)
theorem c4a {b : Nat} (hb : b < 2 ^ 31) : ((4 : Int32) ≤ nI b) = (4 ≤ b) := nI_leE (a := 4) (by decide) hb
theorem c4b {b : Nat} (hb : b < 2 ^ 31) : ((4 : Int32) < nI b) = (4 < b) := nI_ltE (a := 4) (by decide) hb
theorem c4c {b : Nat} (hb : b < 2 ^ 31) : (nI b ≤ (4 : Int32)) = (b ≤ 4) := nI_leE (b := 4) hb (by decide)
theorem c4d {b : Nat} (hb : b < 2 ^ 31) : (nI b < (4 : Int32)) = (b < 4) := nI_ltE (b := 4) hb (by decide)
theorem c4e {b : Nat} (hb : b < 2 ^ 31) : (nI b = (4 : Int32)) = (b = 4) := nI_eqE (b := 4) hb (by decide)
theorem c5a {b : Nat} (hb : b < 2 ^ 31) : ((5 : Int32) ≤ nI b) = (5 ≤ b) := nI_leE (a := 5) (by decide) hb
theorem c5b {b : Nat} (hb : b < 2 ^ 31) : ((5 : Int32) < nI b) = (5 < b) := nI_ltE (a := 5) (by decide) hb
theorem c5c {b : Nat} (hb : b < 2 ^ 31) : (nI b ≤ (5 : Int32)) = (b ≤ 5) := nI_leE (b := 5) hb (by decide)
theorem c5d {b : Nat} (hb : b < 2 ^ 31) : (nI b < (5 : Int32)) = (b < 5) := nI_ltE (b := 5) hb (by decide)
theorem c5e {b : Nat} (hb : b < 2 ^ 31) : (nI b = (5 : Int32)) = (b = 5) := nI_eqE (b := 5) hb (by decide)
theorem c6a {b : Nat} (hb : b < 2 ^ 31) : ((6 : Int32) ≤ nI b) = (6 ≤ b) := nI_leE (a := 6) (by decide) hb
theorem c6b {b : Nat} (hb : b < 2 ^ 31) : ((6 : Int32) < nI b) = (6 < b) := nI_ltE (a := 6) (by decide) hb
theorem c6c {b : Nat} (hb : b < 2 ^ 31) : (nI b ≤ (6 : Int32)) = (b ≤ 6) := nI_leE (b := 6) hb (by decide)
theorem c6d {b : Nat} (hb : b < 2 ^ 31) : (nI b < (6 : Int32)) = (b < 6) := nI_ltE (b := 6) hb (by decide)
theorem c6e {b : Nat} (hb : b < 2 ^ 31) : (nI b = (6 : Int32)) = (b = 6) := nI_eqE (b := 6) hb (by decide)
theorem c7a {b : Nat} (hb : b < 2 ^ 31) : ((7 : Int32) ≤ nI b) = (7 ≤ b) := nI_leE (a := 7) (by decide) hb
theorem c7b {b : Nat} (hb : b < 2 ^ 31) : ((7 : Int32) < nI b) = (7 < b) := nI_ltE (a := 7) (by decide) hb
theorem c7c {b : Nat} (hb : b < 2 ^ 31) : (nI b ≤ (7 : Int32)) = (b ≤ 7) := nI_leE (b := 7) hb (by decide)
theorem c7d {b : Nat} (hb : b < 2 ^ 31) : (nI b < (7 : Int32)) = (b < 7) := nI_ltE (b := 7) hb (by decide)
theorem c7e {b : Nat} (hb : b < 2 ^ 31) : (nI b = (7 : Int32)) = (b = 7) := nI_eqE (b := 7) hb (by decide)
theorem c8a {b : Nat} (hb : b < 2 ^ 31) : ((8 : Int32) ≤ nI b) = (8 ≤ b) := nI_leE (a := 8) (by decide) hb
theorem c8b {b : Nat} (hb : b < 2 ^ 31) : ((8 : Int32) < nI b) = (8 < b) := nI_ltE (a := 8) (by decide) hb
theorem c8c {b : Nat} (hb : b < 2 ^ 31) : (nI b ≤ (8 : Int32)) = (b ≤ 8) := nI_leE (b := 8) hb (by decide)
theorem c8d {b : Nat} (hb : b < 2 ^ 31) : (nI b < (8 : Int32)) = (b < 8) := nI_ltE (b := 8) hb (by decide)
theorem c8e {b : Nat} (hb : b < 2 ^ 31) : (nI b = (8 : Int32)) = (b = 8) := nI_eqE (b := 8) hb (by decide)
theorem c9a {b : Nat} (hb : b < 2 ^ 31) : ((9 : Int32) ≤ nI b) = (9 ≤ b) := nI_leE (a := 9) (by decide) hb
theorem c9b {b : Nat} (hb : b < 2 ^ 31) : ((9 : Int32) < nI b) = (9 < b) := nI_ltE (a := 9) (by decide) hb
theorem c9c {b : Nat} (hb : b < 2 ^ 31) : (nI b ≤ (9 : Int32)) = (b ≤ 9) := nI_leE (b := 9) hb (by decide)
theorem c9d {b : Nat} (hb : b < 2 ^ 31) : (nI b < (9 : Int32)) = (b < 9) := nI_ltE (b := 9) hb (by decide)
theorem c9e {b : Nat} (hb : b < 2 ^ 31) : (nI b = (9 : Int32)) = (b = 9) := nI_eqE (b := 9) hb (by decide)
theorem c10a {b : Nat} (hb : b < 2 ^ 31) : ((10 : Int32) ≤ nI b) = (10 ≤ b) := nI_leE (a := 10) (by decide) hb
theorem c10b {b : Nat} (hb : b < 2 ^ 31) : ((10 : Int32) < nI b) = (10 < b) := nI_ltE (a := 10) (by decide) hb
theorem c10c {b : Nat} (hb : b < 2 ^ 31) : (nI b ≤ (10 : Int32)) = (b ≤ 10) := nI_leE (b := 10) hb (by decide)
theorem c10d {b : Nat} (hb : b < 2 ^ 31) : (nI b < (10 : Int32)) = (b < 10) := nI_ltE (b := 10) hb (by decide)
theorem c10e {b : Nat} (hb : b < 2 ^ 31) : (nI b = (10 : Int32)) = (b = 10) := nI_eqE (b := 10) hb (by decide)
theorem c12a {b : Nat} (hb : b < 2 ^ 31) : ((12 : Int32) ≤ nI b) = (12 ≤ b) := nI_leE (a := 12) (by decide) hb
theorem c12b {b : Nat} (hb : b < 2 ^ 31) : ((12 : Int32) < nI b) = (12 < b) := nI_ltE (a := 12) (by decide) hb
theorem c12c {b : Nat} (hb : b < 2 ^ 31) : (nI b ≤ (12 : Int32)) = (b ≤ 12) := nI_leE (b := 12) hb (by decide)
theorem c12d {b : Nat} (hb : b < 2 ^ 31) : (nI b < (12 : Int32)) = (b < 12) := nI_ltE (b := 12) hb (by decide)
theorem c12e {b : Nat} (hb : b < 2 ^ 31) : (nI b = (12 : Int32)) = (b = 12) := nI_eqE (b := 12) hb (by decide)
theorem c14a {b : Nat} (hb : b < 2 ^ 31) : ((14 : Int32) ≤ nI b) = (14 ≤ b) := nI_leE (a := 14) (by decide) hb
theorem c14b {b : Nat} (hb : b < 2 ^ 31) : ((14 : Int32) < nI b) = (14 < b) := nI_ltE (a := 14) (by decide) hb
theorem c14c {b : Nat} (hb : b < 2 ^ 31) : (nI b ≤ (14 : Int32)) = (b ≤ 14) := nI_leE (b := 14) hb (by decide)
theorem c14d {b : Nat} (hb : b < 2 ^ 31) : (nI b < (14 : Int32)) = (b < 14) := nI_ltE (b := 14) hb (by decide)
theorem c14e {b : Nat} (hb : b < 2 ^ 31) : (nI b = (14 : Int32)) = (b = 14) := nI_eqE (b := 14) hb (by decide)
theorem c16a {b : Nat} (hb : b < 2 ^ 31) : ((16 : Int32) ≤ nI b) = (16 ≤ b) := nI_leE (a := 16) (by decide) hb
theorem c16b {b : Nat} (hb : b < 2 ^ 31) : ((16 : Int32) < nI b) = (16 < b) := nI_ltE (a := 16) (by decide) hb
theorem c16c {b : Nat} (hb : b < 2 ^ 31) : (nI b ≤ (16 : Int32)) = (b ≤ 16) := nI_leE (b := 16) hb (by decide)
theorem c16d {b : Nat} (hb : b < 2 ^ 31) : (nI b < (16 : Int32)) = (b < 16) := nI_ltE (b := 16) hb (by decide)
theorem c16e {b : Nat} (hb : b < 2 ^ 31) : (nI b = (16 : Int32)) = (b = 16) := nI_eqE (b := 16) hb (by decide)
theorem c20a {b : Nat} (hb : b < 2 ^ 31) : ((20 : Int32) ≤ nI b) = (20 ≤ b) := nI_leE (a := 20) (by decide) hb
theorem c20b {b : Nat} (hb : b < 2 ^ 31) : ((20 : Int32) < nI b) = (20 < b) := nI_ltE (a := 20) (by decide) hb
theorem c20c {b : Nat} (hb : b < 2 ^ 31) : (nI b ≤ (20 : Int32)) = (b ≤ 20) := nI_leE (b := 20) hb (by decide)
theorem c20d {b : Nat} (hb : b < 2 ^ 31) : (nI b < (20 : Int32)) = (b < 20) := nI_ltE (b := 20) hb (by decide)
theorem c20e {b : Nat} (hb : b < 2 ^ 31) : (nI b = (20 : Int32)) = (b = 20) := nI_eqE (b := 20) hb (by decide)
theorem c30a {b : Nat} (hb : b < 2 ^ 31) : ((30 : Int32) ≤ nI b) = (30 ≤ b) := nI_leE (a := 30) (by decide) hb
theorem c30b {b : Nat} (hb : b < 2 ^ 31) : ((30 : Int32) < nI b) = (30 < b) := nI_ltE (a := 30) (by decide) hb
theorem c30c {b : Nat} (hb : b < 2 ^ 31) : (nI b ≤ (30 : Int32)) = (b ≤ 30) := nI_leE (b := 30) hb (by decide)
theorem c30d {b : Nat} (hb : b < 2 ^ 31) : (nI b < (30 : Int32)) = (b < 30) := nI_ltE (b := 30) hb (by decide)
theorem c30e {b : Nat} (hb : b < 2 ^ 31) : (nI b = (30 : Int32)) = (b = 30) := nI_eqE (b := 30) hb (by decide)
theorem c32a {b : Nat} (hb : b < 2 ^ 31) : ((32 : Int32) ≤ nI b) = (32 ≤ b) := nI_leE (a := 32) (by decide) hb
theorem c32b {b : Nat} (hb : b < 2 ^ 31) : ((32 : Int32) < nI b) = (32 < b) := nI_ltE (a := 32) (by decide) hb
theorem c32c {b : Nat} (hb : b < 2 ^ 31) : (nI b ≤ (32 : Int32)) = (b ≤ 32) := nI_leE (b := 32) hb (by decide)
theorem c32d {b : Nat} (hb : b < 2 ^ 31) : (nI b < (32 : Int32)) = (b < 32) := nI_ltE (b := 32) hb (by decide)
theorem c32e {b : Nat} (hb : b < 2 ^ 31) : (nI b = (32 : Int32)) = (b = 32) := nI_eqE (b := 32) hb (by decide)
theorem c36a {b : Nat} (hb : b < 2 ^ 31) : ((36 : Int32) ≤ nI b) = (36 ≤ b) := nI_leE (a := 36) (by decide) hb
theorem c36b {b : Nat} (hb : b < 2 ^ 31) : ((36 : Int32) < nI b) = (36 < b) := nI_ltE (a := 36) (by decide) hb
theorem c36c {b : Nat} (hb : b < 2 ^ 31) : (nI b ≤ (36 : Int32)) = (b ≤ 36) := nI_leE (b := 36) hb (by decide)
theorem c36d {b : Nat} (hb : b < 2 ^ 31) : (nI b < (36 : Int32)) = (b < 36) := nI_ltE (b := 36) hb (by decide)
theorem c36e {b : Nat} (hb : b < 2 ^ 31) : (nI b = (36 : Int32)) = (b = 36) := nI_eqE (b := 36) hb (by decide)
theorem c40a {b : Nat} (hb : b < 2 ^ 31) : ((40 : Int32) ≤ nI b) = (40 ≤ b) := nI_leE (a := 40) (by decide) hb
theorem c40b {b : Nat} (hb : b < 2 ^ 31) : ((40 : Int32) < nI b) = (40 < b) := nI_ltE (a := 40) (by decide) hb
theorem c40c {b : Nat} (hb : b < 2 ^ 31) : (nI b ≤ (40 : Int32)) = (b ≤ 40) := nI_leE (b := 40) hb (by decide)
theorem c40d {b : Nat} (hb : b < 2 ^ 31) : (nI b < (40 : Int32)) = (b < 40) := nI_ltE (b := 40) hb (by decide)
theorem c40e {b : Nat} (hb : b < 2 ^ 31) : (nI b = (40 : Int32)) = (b = 40) := nI_eqE (b := 40) hb (by decide)
theorem c41a {b : Nat} (hb : b < 2 ^ 31) : ((41 : Int32) ≤ nI b) = (41 ≤ b) := nI_leE (a := 41) (by decide) hb
theorem c41b {b : Nat} (hb : b < 2 ^ 31) : ((41 : Int32) < nI b) = (41 < b) := nI_ltE (a := 41) (by decide) hb
theorem c41c {b : Nat} (hb : b < 2 ^ 31) : (nI b ≤ (41 : Int32)) = (b ≤ 41) := nI_leE (b := 41) hb (by decide)
theorem c41d {b : Nat} (hb : b < 2 ^ 31) : (nI b < (41 : Int32)) = (b < 41) := nI_ltE (b := 41) hb (by decide)
theorem c41e {b : Nat} (hb : b < 2 ^ 31) : (nI b = (41 : Int32)) = (b = 41) := nI_eqE (b := 41) hb (by decide)
theorem c42a {b : Nat} (hb : b < 2 ^ 31) : ((42 : Int32) ≤ nI b) = (42 ≤ b) := nI_leE (a := 42) (by decide) hb
theorem c42b {b : Nat} (hb : b < 2 ^ 31) : ((42 : Int32) < nI b) = (42 < b) := nI_ltE (a := 42) (by decide) hb
theorem c42c {b : Nat} (hb : b < 2 ^ 31) : (nI b ≤ (42 : Int32)) = (b ≤ 42) := nI_leE (b := 42) hb (by decide)
theorem c42d {b : Nat} (hb : b < 2 ^ 31) : (nI b < (42 : Int32)) = (b < 42) := nI_ltE (b := 42) hb (by decide)
theorem c42e {b : Nat} (hb : b < 2 ^ 31) : (nI b = (42 : Int32)) = (b = 42) := nI_eqE (b := 42) hb (by decide)
theorem c43a {b : Nat} (hb : b < 2 ^ 31) : ((43 : Int32) ≤ nI b) = (43 ≤ b) := nI_leE (a := 43) (by decide) hb
theorem c43b {b : Nat} (hb : b < 2 ^ 31) : ((43 : Int32) < nI b) = (43 < b) := nI_ltE (a := 43) (by decide) hb
theorem c43c {b : Nat} (hb : b < 2 ^ 31) : (nI b ≤ (43 : Int32)) = (b ≤ 43) := nI_leE (b := 43) hb (by decide)
theorem c43d {b : Nat} (hb : b < 2 ^ 31) : (nI b < (43 : Int32)) = (b < 43) := nI_ltE (b := 43) hb (by decide)
theorem c43e {b : Nat} (hb : b < 2 ^ 31) : (nI b = (43 : Int32)) = (b = 43) := nI_eqE (b := 43) hb (by decide)
theorem c45a {b : Nat} (hb : b < 2 ^ 31) : ((45 : Int32) ≤ nI b) = (45 ≤ b) := nI_leE (a := 45) (by decide) hb
theorem c45b {b : Nat} (hb : b < 2 ^ 31) : ((45 : Int32) < nI b) = (45 < b) := nI_ltE (a := 45) (by decide) hb
theorem c45c {b : Nat} (hb : b < 2 ^ 31) : (nI b ≤ (45 : Int32)) = (b ≤ 45) := nI_leE (b := 45) hb (by decide)
theorem c45d {b : Nat} (hb : b < 2 ^ 31) : (nI b < (45 : Int32)) = (b < 45) := nI_ltE (b := 45) hb (by decide)
theorem c45e {b : Nat} (hb : b < 2 ^ 31) : (nI b = (45 : Int32)) = (b = 45) := nI_eqE (b := 45) hb (by decide)
theorem c47a {b : Nat} (hb : b < 2 ^ 31) : ((47 : Int32) ≤ nI b) = (47 ≤ b) := nI_leE (a := 47) (by decide) hb
theorem c47b {b : Nat} (hb : b < 2 ^ 31) : ((47 : Int32) < nI b) = (47 < b) := nI_ltE (a := 47) (by decide) hb
theorem c47c {b : Nat} (hb : b < 2 ^ 31) : (nI b ≤ (47 : Int32)) = (b ≤ 47) := nI_leE (b := 47) hb (by decide)
theorem c47d {b : Nat} (hb : b < 2 ^ 31) : (nI b < (47 : Int32)) = (b < 47) := nI_ltE (b := 47) hb (by decide)
theorem c47e {b : Nat} (hb : b < 2 ^ 31) : (nI b = (47 : Int32)) = (b = 47) := nI_eqE (b := 47) hb (by decide)
theorem c48a {b : Nat} (hb : b < 2 ^ 31) : ((48 : Int32) ≤ nI b) = (48 ≤ b) := nI_leE (a := 48) (by decide) hb
theorem c48b {b : Nat} (hb : b < 2 ^ 31) : ((48 : Int32) < nI b) = (48 < b) := nI_ltE (a := 48) (by decide) hb
theorem c48c {b : Nat} (hb : b < 2 ^ 31) : (nI b ≤ (48 : Int32)) = (b ≤ 48) := nI_leE (b := 48) hb (by decide)
theorem c48d {b : Nat} (hb : b < 2 ^ 31) : (nI b < (48 : Int32)) = (b < 48) := nI_ltE (b := 48) hb (by decide)
theorem c48e {b : Nat} (hb : b < 2 ^ 31) : (nI b = (48 : Int32)) = (b = 48) := nI_eqE (b := 48) hb (by decide)
theorem c57a {b : Nat} (hb : b < 2 ^ 31) : ((57 : Int32) ≤ nI b) = (57 ≤ b) := nI_leE (a := 57) (by decide) hb
theorem c57b {b : Nat} (hb : b < 2 ^ 31) : ((57 : Int32) < nI b) = (57 < b) := nI_ltE (a := 57) (by decide) hb
theorem c57c {b : Nat} (hb : b < 2 ^ 31) : (nI b ≤ (57 : Int32)) = (b ≤ 57) := nI_leE (b := 57) hb (by decide)
theorem c57d {b : Nat} (hb : b < 2 ^ 31) : (nI b < (57 : Int32)) = (b < 57) := nI_ltE (b := 57) hb (by decide)
theorem c57e {b : Nat} (hb : b < 2 ^ 31) : (nI b = (57 : Int32)) = (b = 57) := nI_eqE (b := 57) hb (by decide)
theorem c59a {b : Nat} (hb : b < 2 ^ 31) : ((59 : Int32) ≤ nI b) = (59 ≤ b) := nI_leE (a := 59) (by decide) hb
theorem c59b {b : Nat} (hb : b < 2 ^ 31) : ((59 : Int32) < nI b) = (59 < b) := nI_ltE (a := 59) (by decide) hb
theorem c59c {b : Nat} (hb : b < 2 ^ 31) : (nI b ≤ (59 : Int32)) = (b ≤ 59) := nI_leE (b := 59) hb (by decide)
theorem c59d {b : Nat} (hb : b < 2 ^ 31) : (nI b < (59 : Int32)) = (b < 59) := nI_ltE (b := 59) hb (by decide)
theorem c59e {b : Nat} (hb : b < 2 ^ 31) : (nI b = (59 : Int32)) = (b = 59) := nI_eqE (b := 59) hb (by decide)
theorem c60a {b : Nat} (hb : b < 2 ^ 31) : ((60 : Int32) ≤ nI b) = (60 ≤ b) := nI_leE (a := 60) (by decide) hb
theorem c60b {b : Nat} (hb : b < 2 ^ 31) : ((60 : Int32) < nI b) = (60 < b) := nI_ltE (a := 60) (by decide) hb
theorem c60c {b : Nat} (hb : b < 2 ^ 31) : (nI b ≤ (60 : Int32)) = (b ≤ 60) := nI_leE (b := 60) hb (by decide)
theorem c60d {b : Nat} (hb : b < 2 ^ 31) : (nI b < (60 : Int32)) = (b < 60) := nI_ltE (b := 60) hb (by decide)
theorem c60e {b : Nat} (hb : b < 2 ^ 31) : (nI b = (60 : Int32)) = (b = 60) := nI_eqE (b := 60) hb (by decide)
theorem c61a {b : Nat} (hb : b < 2 ^ 31) : ((61 : Int32) ≤ nI b) = (61 ≤ b) := nI_leE (a := 61) (by decide) hb
theorem c61b {b : Nat} (hb : b < 2 ^ 31) : ((61 : Int32) < nI b) = (61 < b) := nI_ltE (a := 61) (by decide) hb
theorem c61c {b : Nat} (hb : b < 2 ^ 31) : (nI b ≤ (61 : Int32)) = (b ≤ 61) := nI_leE (b := 61) hb (by decide)
theorem c61d {b : Nat} (hb : b < 2 ^ 31) : (nI b < (61 : Int32)) = (b < 61) := nI_ltE (b := 61) hb (by decide)
theorem c61e {b : Nat} (hb : b < 2 ^ 31) : (nI b = (61 : Int32)) = (b = 61) := nI_eqE (b := 61) hb (by decide)
theorem c62a {b : Nat} (hb : b < 2 ^ 31) : ((62 : Int32) ≤ nI b) = (62 ≤ b) := nI_leE (a := 62) (by decide) hb
theorem c62b {b : Nat} (hb : b < 2 ^ 31) : ((62 : Int32) < nI b) = (62 < b) := nI_ltE (a := 62) (by decide) hb
theorem c62c {b : Nat} (hb : b < 2 ^ 31) : (nI b ≤ (62 : Int32)) = (b ≤ 62) := nI_leE (b := 62) hb (by decide)
theorem c62d {b : Nat} (hb : b < 2 ^ 31) : (nI b < (62 : Int32)) = (b < 62) := nI_ltE (b := 62) hb (by decide)
theorem c62e {b : Nat} (hb : b < 2 ^ 31) : (nI b = (62 : Int32)) = (b = 62) := nI_eqE (b := 62) hb (by decide)
theorem c64a {b : Nat} (hb : b < 2 ^ 31) : ((64 : Int32) ≤ nI b) = (64 ≤ b) := nI_leE (a := 64) (by decide) hb
theorem c64b {b : Nat} (hb : b < 2 ^ 31) : ((64 : Int32) < nI b) = (64 < b) := nI_ltE (a := 64) (by decide) hb
theorem c64c {b : Nat} (hb : b < 2 ^ 31) : (nI b ≤ (64 : Int32)) = (b ≤ 64) := nI_leE (b := 64) hb (by decide)
theorem c64d {b : Nat} (hb : b < 2 ^ 31) : (nI b < (64 : Int32)) = (b < 64) := nI_ltE (b := 64) hb (by decide)
theorem c64e {b : Nat} (hb : b < 2 ^ 31) : (nI b = (64 : Int32)) = (b = 64) := nI_eqE (b := 64) hb (by decide)
theorem c96a {b : Nat} (hb : b < 2 ^ 31) : ((96 : Int32) ≤ nI b) = (96 ≤ b) := nI_leE (a := 96) (by decide) hb
theorem c96b {b : Nat} (hb : b < 2 ^ 31) : ((96 : Int32) < nI b) = (96 < b) := nI_ltE (a := 96) (by decide) hb
theorem c96c {b : Nat} (hb : b < 2 ^ 31) : (nI b ≤ (96 : Int32)) = (b ≤ 96) := nI_leE (b := 96) hb (by decide)
theorem c96d {b : Nat} (hb : b < 2 ^ 31) : (nI b < (96 : Int32)) = (b < 96) := nI_ltE (b := 96) hb (by decide)
theorem c96e {b : Nat} (hb : b < 2 ^ 31) : (nI b = (96 : Int32)) = (b = 96) := nI_eqE (b := 96) hb (by decide)
theorem c97a {b : Nat} (hb : b < 2 ^ 31) : ((97 : Int32) ≤ nI b) = (97 ≤ b) := nI_leE (a := 97) (by decide) hb
theorem c97b {b : Nat} (hb : b < 2 ^ 31) : ((97 : Int32) < nI b) = (97 < b) := nI_ltE (a := 97) (by decide) hb
theorem c97c {b : Nat} (hb : b < 2 ^ 31) : (nI b ≤ (97 : Int32)) = (b ≤ 97) := nI_leE (b := 97) hb (by decide)
theorem c97d {b : Nat} (hb : b < 2 ^ 31) : (nI b < (97 : Int32)) = (b < 97) := nI_ltE (b := 97) hb (by decide)
theorem c97e {b : Nat} (hb : b < 2 ^ 31) : (nI b = (97 : Int32)) = (b = 97) := nI_eqE (b := 97) hb (by decide)
theorem c98a {b : Nat} (hb : b < 2 ^ 31) : ((98 : Int32) ≤ nI b) = (98 ≤ b) := nI_leE (a := 98) (by decide) hb
theorem c98b {b : Nat} (hb : b < 2 ^ 31) : ((98 : Int32) < nI b) = (98 < b) := nI_ltE (a := 98) (by decide) hb
theorem c98c {b : Nat} (hb : b < 2 ^ 31) : (nI b ≤ (98 : Int32)) = (b ≤ 98) := nI_leE (b := 98) hb (by decide)
theorem c98d {b : Nat} (hb : b < 2 ^ 31) : (nI b < (98 : Int32)) = (b < 98) := nI_ltE (b := 98) hb (by decide)
theorem c98e {b : Nat} (hb : b < 2 ^ 31) : (nI b = (98 : Int32)) = (b = 98) := nI_eqE (b := 98) hb (by decide)
theorem c99a {b : Nat} (hb : b < 2 ^ 31) : ((99 : Int32) ≤ nI b) = (99 ≤ b) := nI_leE (a := 99) (by decide) hb
theorem c99b {b : Nat} (hb : b < 2 ^ 31) : ((99 : Int32) < nI b) = (99 < b) := nI_ltE (a := 99) (by decide) hb
theorem c99c {b : Nat} (hb : b < 2 ^ 31) : (nI b ≤ (99 : Int32)) = (b ≤ 99) := nI_leE (b := 99) hb (by decide)
theorem c99d {b : Nat} (hb : b < 2 ^ 31) : (nI b < (99 : Int32)) = (b < 99) := nI_ltE (b := 99) hb (by decide)
theorem c99e {b : Nat} (hb : b < 2 ^ 31) : (nI b = (99 : Int32)) = (b = 99) := nI_eqE (b := 99) hb (by decide)
theorem c100a {b : Nat} (hb : b < 2 ^ 31) : ((100 : Int32) ≤ nI b) = (100 ≤ b) := nI_leE (a := 100) (by decide) hb
theorem c100b {b : Nat} (hb : b < 2 ^ 31) : ((100 : Int32) < nI b) = (100 < b) := nI_ltE (a := 100) (by decide) hb
theorem c100c {b : Nat} (hb : b < 2 ^ 31) : (nI b ≤ (100 : Int32)) = (b ≤ 100) := nI_leE (b := 100) hb (by decide)
theorem c100d {b : Nat} (hb : b < 2 ^ 31) : (nI b < (100 : Int32)) = (b < 100) := nI_ltE (b := 100) hb (by decide)
theorem c100e {b : Nat} (hb : b < 2 ^ 31) : (nI b = (100 : Int32)) = (b = 100) := nI_eqE (b := 100) hb (by decide)
theorem c122a {b : Nat} (hb : b < 2 ^ 31) : ((122 : Int32) ≤ nI b) = (122 ≤ b) := nI_leE (a := 122) (by decide) hb
theorem c122b {b : Nat} (hb : b < 2 ^ 31) : ((122 : Int32) < nI b) = (122 < b) := nI_ltE (a := 122) (by decide) hb
theorem c122c {b : Nat} (hb : b < 2 ^ 31) : (nI b ≤ (122 : Int32)) = (b ≤ 122) := nI_leE (b := 122) hb (by decide)
theorem c122d {b : Nat} (hb : b < 2 ^ 31) : (nI b < (122 : Int32)) = (b < 122) := nI_ltE (b := 122) hb (by decide)
theorem c122e {b : Nat} (hb : b < 2 ^ 31) : (nI b = (122 : Int32)) = (b = 122) := nI_eqE (b := 122) hb (by decide)
theorem c700a {b : Nat} (hb : b < 2 ^ 31) : ((700 : Int32) ≤ nI b) = (700 ≤ b) := nI_leE (a := 700) (by decide) hb
theorem c700b {b : Nat} (hb : b < 2 ^ 31) : ((700 : Int32) < nI b) = (700 < b) := nI_ltE (a := 700) (by decide) hb
theorem c700c {b : Nat} (hb : b < 2 ^ 31) : (nI b ≤ (700 : Int32)) = (b ≤ 700) := nI_leE (b := 700) hb (by decide)
theorem c700d {b : Nat} (hb : b < 2 ^ 31) : (nI b < (700 : Int32)) = (b < 700) := nI_ltE (b := 700) hb (by decide)
theorem c700e {b : Nat} (hb : b < 2 ^ 31) : (nI b = (700 : Int32)) = (b = 700) := nI_eqE (b := 700) hb (by decide)
theorem c4240a {b : Nat} (hb : b < 2 ^ 31) : ((4240 : Int32) ≤ nI b) = (4240 ≤ b) := nI_leE (a := 4240) (by decide) hb
theorem c4240b {b : Nat} (hb : b < 2 ^ 31) : ((4240 : Int32) < nI b) = (4240 < b) := nI_ltE (a := 4240) (by decide) hb
theorem c4240c {b : Nat} (hb : b < 2 ^ 31) : (nI b ≤ (4240 : Int32)) = (b ≤ 4240) := nI_leE (b := 4240) hb (by decide)
theorem c4240d {b : Nat} (hb : b < 2 ^ 31) : (nI b < (4240 : Int32)) = (b < 4240) := nI_ltE (b := 4240) hb (by decide)
theorem c4240e {b : Nat} (hb : b < 2 ^ 31) : (nI b = (4240 : Int32)) = (b = 4240) := nI_eqE (b := 4240) hb (by decide)
theorem c9999a {b : Nat} (hb : b < 2 ^ 31) : ((9999 : Int32) ≤ nI b) = (9999 ≤ b) := nI_leE (a := 9999) (by decide) hb
theorem c9999b {b : Nat} (hb : b < 2 ^ 31) : ((9999 : Int32) < nI b) = (9999 < b) := nI_ltE (a := 9999) (by decide) hb
theorem c9999c {b : Nat} (hb : b < 2 ^ 31) : (nI b ≤ (9999 : Int32)) = (b ≤ 9999) := nI_leE (b := 9999) hb (by decide)
theorem c9999d {b : Nat} (hb : b < 2 ^ 31) : (nI b < (9999 : Int32)) = (b < 9999) := nI_ltE (b := 9999) hb (by decide)
theorem c9999e {b : Nat} (hb : b < 2 ^ 31) : (nI b = (9999 : Int32)) = (b = 9999) := nI_eqE (b := 9999) hb (by decide)
theorem c100000a {b : Nat} (hb : b < 2 ^ 31) : ((100000 : Int32) ≤ nI b) = (100000 ≤ b) := nI_leE (a := 100000) (by decide) hb
theorem c100000b {b : Nat} (hb : b < 2 ^ 31) : ((100000 : Int32) < nI b) = (100000 < b) := nI_ltE (a := 100000) (by decide) hb
theorem c100000c {b : Nat} (hb : b < 2 ^ 31) : (nI b ≤ (100000 : Int32)) = (b ≤ 100000) := nI_leE (b := 100000) hb (by decide)
theorem c100000d {b : Nat} (hb : b < 2 ^ 31) : (nI b < (100000 : Int32)) = (b < 100000) := nI_ltE (b := 100000) hb (by decide)
theorem c100000e {b : Nat} (hb : b < 2 ^ 31) : (nI b = (100000 : Int32)) = (b = 100000) := nI_eqE (b := 100000) hb (by decide)
theorem c1000000a {b : Nat} (hb : b < 2 ^ 31) : ((1000000 : Int32) ≤ nI b) = (1000000 ≤ b) := nI_leE (a := 1000000) (by decide) hb
theorem c1000000b {b : Nat} (hb : b < 2 ^ 31) : ((1000000 : Int32) < nI b) = (1000000 < b) := nI_ltE (a := 1000000) (by decide) hb
theorem c1000000c {b : Nat} (hb : b < 2 ^ 31) : (nI b ≤ (1000000 : Int32)) = (b ≤ 1000000) := nI_leE (b := 1000000) hb (by decide)
theorem c1000000d {b : Nat} (hb : b < 2 ^ 31) : (nI b < (1000000 : Int32)) = (b < 1000000) := nI_ltE (b := 1000000) hb (by decide)
theorem c1000000e {b : Nat} (hb : b < 2 ^ 31) : (nI b = (1000000 : Int32)) = (b = 1000000) := nI_eqE (b := 1000000) hb (by decide)
theorem srv12 {v : Nat} (hv : v = 2 ∨ v = 17) : sr v 12 = v + 11 := by rcases hv with rfl | rfl <;> rfl
theorem srv13 {v : Nat} (hv : v = 2 ∨ v = 17) : sr v 13 = v + 13 := by rcases hv with rfl | rfl <;> rfl
theorem sru11_1 {v : Nat} (hv : v = 2 ∨ v = 17) : sr (v + 11) 1 = v + 10 := by rcases hv with rfl | rfl <;> rfl
theorem sru11_4 {v : Nat} (hv : v = 2 ∨ v = 17) : sr (v + 11) 4 = v + 12 := by rcases hv with rfl | rfl <;> rfl
theorem sru13_1 {v : Nat} (hv : v = 2 ∨ v = 17) : sr (v + 13) 1 = v + 10 := by rcases hv with rfl | rfl <;> rfl
theorem sru13_4 {v : Nat} (hv : v = 2 ∨ v = 17) : sr (v + 13) 4 = v + 14 := by rcases hv with rfl | rfl <;> rfl
theorem lnv1 {v : Nat} (hv : v = 2 ∨ v = 17) : ln (v + 1) = 8 := by rcases hv with rfl | rfl <;> rfl
theorem rdv1 {β : Type} {S : St} {v n : Nat} {k : Int32 → Option β} (hv : v = 2 ∨ v = 17) (h : n < 8) : rd S (v + 1) (nI n) k = k (S (v + 1) n) := rd_g (by rw [lnv1 hv]; exact h)
theorem wrv1 {β : Type} {S : St} {v n : Nat} {x : Int32} {k : St → Option β} (hv : v = 2 ∨ v = 17) (h : n < 8) : wr S (v + 1) (nI n) x k = k (up S (v + 1) n x) := wr_g (by rw [lnv1 hv]; exact h)
theorem lnv2 {v : Nat} (hv : v = 2 ∨ v = 17) : ln (v + 2) = 8 := by rcases hv with rfl | rfl <;> rfl
theorem rdv2 {β : Type} {S : St} {v n : Nat} {k : Int32 → Option β} (hv : v = 2 ∨ v = 17) (h : n < 8) : rd S (v + 2) (nI n) k = k (S (v + 2) n) := rd_g (by rw [lnv2 hv]; exact h)
theorem wrv2 {β : Type} {S : St} {v n : Nat} {x : Int32} {k : St → Option β} (hv : v = 2 ∨ v = 17) (h : n < 8) : wr S (v + 2) (nI n) x k = k (up S (v + 2) n x) := wr_g (by rw [lnv2 hv]; exact h)
theorem lnv3 {v : Nat} (hv : v = 2 ∨ v = 17) : ln (v + 3) = 48 := by rcases hv with rfl | rfl <;> rfl
theorem rdv3 {β : Type} {S : St} {v n : Nat} {k : Int32 → Option β} (hv : v = 2 ∨ v = 17) (h : n < 48) : rd S (v + 3) (nI n) k = k (S (v + 3) n) := rd_g (by rw [lnv3 hv]; exact h)
theorem wrv3 {β : Type} {S : St} {v n : Nat} {x : Int32} {k : St → Option β} (hv : v = 2 ∨ v = 17) (h : n < 48) : wr S (v + 3) (nI n) x k = k (up S (v + 3) n x) := wr_g (by rw [lnv3 hv]; exact h)
theorem lnv4 {v : Nat} (hv : v = 2 ∨ v = 17) : ln (v + 4) = 8 := by rcases hv with rfl | rfl <;> rfl
theorem rdv4 {β : Type} {S : St} {v n : Nat} {k : Int32 → Option β} (hv : v = 2 ∨ v = 17) (h : n < 8) : rd S (v + 4) (nI n) k = k (S (v + 4) n) := rd_g (by rw [lnv4 hv]; exact h)
theorem wrv4 {β : Type} {S : St} {v n : Nat} {x : Int32} {k : St → Option β} (hv : v = 2 ∨ v = 17) (h : n < 8) : wr S (v + 4) (nI n) x k = k (up S (v + 4) n x) := wr_g (by rw [lnv4 hv]; exact h)
theorem lnv5 {v : Nat} (hv : v = 2 ∨ v = 17) : ln (v + 5) = 64 := by rcases hv with rfl | rfl <;> rfl
theorem rdv5 {β : Type} {S : St} {v n : Nat} {k : Int32 → Option β} (hv : v = 2 ∨ v = 17) (h : n < 64) : rd S (v + 5) (nI n) k = k (S (v + 5) n) := rd_g (by rw [lnv5 hv]; exact h)
theorem wrv5 {β : Type} {S : St} {v n : Nat} {x : Int32} {k : St → Option β} (hv : v = 2 ∨ v = 17) (h : n < 64) : wr S (v + 5) (nI n) x k = k (up S (v + 5) n x) := wr_g (by rw [lnv5 hv]; exact h)
theorem lnv6 {v : Nat} (hv : v = 2 ∨ v = 17) : ln (v + 6) = 6 := by rcases hv with rfl | rfl <;> rfl
theorem rdv6 {β : Type} {S : St} {v n : Nat} {k : Int32 → Option β} (hv : v = 2 ∨ v = 17) (h : n < 6) : rd S (v + 6) (nI n) k = k (S (v + 6) n) := rd_g (by rw [lnv6 hv]; exact h)
theorem wrv6 {β : Type} {S : St} {v n : Nat} {x : Int32} {k : St → Option β} (hv : v = 2 ∨ v = 17) (h : n < 6) : wr S (v + 6) (nI n) x k = k (up S (v + 6) n x) := wr_g (by rw [lnv6 hv]; exact h)
theorem lnv7 {v : Nat} (hv : v = 2 ∨ v = 17) : ln (v + 7) = 36 := by rcases hv with rfl | rfl <;> rfl
theorem rdv7 {β : Type} {S : St} {v n : Nat} {k : Int32 → Option β} (hv : v = 2 ∨ v = 17) (h : n < 36) : rd S (v + 7) (nI n) k = k (S (v + 7) n) := rd_g (by rw [lnv7 hv]; exact h)
theorem wrv7 {β : Type} {S : St} {v n : Nat} {x : Int32} {k : St → Option β} (hv : v = 2 ∨ v = 17) (h : n < 36) : wr S (v + 7) (nI n) x k = k (up S (v + 7) n x) := wr_g (by rw [lnv7 hv]; exact h)
theorem lnv8 {v : Nat} (hv : v = 2 ∨ v = 17) : ln (v + 8) = 6 := by rcases hv with rfl | rfl <;> rfl
theorem rdv8 {β : Type} {S : St} {v n : Nat} {k : Int32 → Option β} (hv : v = 2 ∨ v = 17) (h : n < 6) : rd S (v + 8) (nI n) k = k (S (v + 8) n) := rd_g (by rw [lnv8 hv]; exact h)
theorem wrv8 {β : Type} {S : St} {v n : Nat} {x : Int32} {k : St → Option β} (hv : v = 2 ∨ v = 17) (h : n < 6) : wr S (v + 8) (nI n) x k = k (up S (v + 8) n x) := wr_g (by rw [lnv8 hv]; exact h)
theorem lnv9 {v : Nat} (hv : v = 2 ∨ v = 17) : ln (v + 9) = 8 := by rcases hv with rfl | rfl <;> rfl
theorem rdv9 {β : Type} {S : St} {v n : Nat} {k : Int32 → Option β} (hv : v = 2 ∨ v = 17) (h : n < 8) : rd S (v + 9) (nI n) k = k (S (v + 9) n) := rd_g (by rw [lnv9 hv]; exact h)
theorem wrv9 {β : Type} {S : St} {v n : Nat} {x : Int32} {k : St → Option β} (hv : v = 2 ∨ v = 17) (h : n < 8) : wr S (v + 9) (nI n) x k = k (up S (v + 9) n x) := wr_g (by rw [lnv9 hv]; exact h)
theorem lnv10 {v : Nat} (hv : v = 2 ∨ v = 17) : ln (v + 10) = 701 := by rcases hv with rfl | rfl <;> rfl
theorem rdv10 {β : Type} {S : St} {v n : Nat} {k : Int32 → Option β} (hv : v = 2 ∨ v = 17) (h : n < 701) : rd S (v + 10) (nI n) k = k (S (v + 10) n) := rd_g (by rw [lnv10 hv]; exact h)
theorem wrv10 {β : Type} {S : St} {v n : Nat} {x : Int32} {k : St → Option β} (hv : v = 2 ∨ v = 17) (h : n < 701) : wr S (v + 10) (nI n) x k = k (up S (v + 10) n x) := wr_g (by rw [lnv10 hv]; exact h)
theorem lnv12 {v : Nat} (hv : v = 2 ∨ v = 17) : ln (v + 12) = 40 := by rcases hv with rfl | rfl <;> rfl
theorem rdv12 {β : Type} {S : St} {v n : Nat} {k : Int32 → Option β} (hv : v = 2 ∨ v = 17) (h : n < 40) : rd S (v + 12) (nI n) k = k (S (v + 12) n) := rd_g (by rw [lnv12 hv]; exact h)
theorem wrv12 {β : Type} {S : St} {v n : Nat} {x : Int32} {k : St → Option β} (hv : v = 2 ∨ v = 17) (h : n < 40) : wr S (v + 12) (nI n) x k = k (up S (v + 12) n x) := wr_g (by rw [lnv12 hv]; exact h)
theorem lnv14 {v : Nat} (hv : v = 2 ∨ v = 17) : ln (v + 14) = 40 := by rcases hv with rfl | rfl <;> rfl
theorem rdv14 {β : Type} {S : St} {v n : Nat} {k : Int32 → Option β} (hv : v = 2 ∨ v = 17) (h : n < 40) : rd S (v + 14) (nI n) k = k (S (v + 14) n) := rd_g (by rw [lnv14 hv]; exact h)
theorem wrv14 {β : Type} {S : St} {v n : Nat} {x : Int32} {k : St → Option β} (hv : v = 2 ∨ v = 17) (h : n < 40) : wr S (v + 14) (nI n) x k = k (up S (v + 14) n x) := wr_g (by rw [lnv14 hv]; exact h)
theorem rd1 {β : Type} {S : St} {n : Nat} {k : Int32 → Option β} (h : n < 700) : rd S 1 (nI n) k = k (S 1 n) := rd_g h
theorem wb1 {β : Type} {S : St} {n : Nat} {x : Int32} {k : St → Option β} (h : n < 700) : wb S 1 (nI n) x k = k (up S 1 n x.toInt8.toInt32) := wb_g h
theorem rd35 {β : Type} {S : St} {n : Nat} {k : Int32 → Option β} (h : n < 96) : rd S 35 (nI n) k = k (S 35 n) := rd_g h
theorem wr35 {β : Type} {S : St} {n : Nat} {x : Int32} {k : St → Option β} (h : n < 96) : wr S 35 (nI n) x k = k (up S 35 n x) := wr_g h
theorem rd37 {β : Type} {S : St} {n : Nat} {k : Int32 → Option β} (h : n < 106) : rd S 37 (nI n) k = k (S 37 n) := rd_g h
theorem wr37 {β : Type} {S : St} {n : Nat} {x : Int32} {k : St → Option β} (h : n < 106) : wr S 37 (nI n) x k = k (up S 37 n x) := wr_g h
theorem rd79 {β : Type} {S : St} {n : Nat} {k : Int32 → Option β} (h : n < 8) : rd S 79 (nI n) k = k (S 79 n) := rd_g h
theorem wr79 {β : Type} {S : St} {n : Nat} {x : Int32} {k : St → Option β} (h : n < 8) : wr S 79 (nI n) x k = k (up S 79 n x) := wr_g h
theorem rd80 {β : Type} {S : St} {n : Nat} {k : Int32 → Option β} (h : n < 8) : rd S 80 (nI n) k = k (S 80 n) := rd_g h
theorem wr80 {β : Type} {S : St} {n : Nat} {x : Int32} {k : St → Option β} (h : n < 8) : wr S 80 (nI n) x k = k (up S 80 n x) := wr_g h
theorem rd81 {β : Type} {S : St} {n : Nat} {k : Int32 → Option β} (h : n < 8) : rd S 81 (nI n) k = k (S 81 n) := rd_g h
theorem wr81 {β : Type} {S : St} {n : Nat} {x : Int32} {k : St → Option β} (h : n < 8) : wr S 81 (nI n) x k = k (up S 81 n x) := wr_g h
theorem rd82 {β : Type} {S : St} {n : Nat} {k : Int32 → Option β} (h : n < 3) : rd S 82 (nI n) k = k (S 82 n) := rd_g h
theorem wr82 {β : Type} {S : St} {n : Nat} {x : Int32} {k : St → Option β} (h : n < 3) : wr S 82 (nI n) x k = k (up S 82 n x) := wr_g h
theorem rd84 {β : Type} {S : St} {n : Nat} {k : Int32 → Option β} (h : n < 106) : rd S 84 (nI n) k = k (S 84 n) := rd_g h
theorem wr84 {β : Type} {S : St} {n : Nat} {x : Int32} {k : St → Option β} (h : n < 106) : wr S 84 (nI n) x k = k (up S 84 n x) := wr_g h
theorem rd126 {β : Type} {S : St} {n : Nat} {k : Int32 → Option β} (h : n < 8) : rd S 126 (nI n) k = k (S 126 n) := rd_g h
theorem wr126 {β : Type} {S : St} {n : Nat} {x : Int32} {k : St → Option β} (h : n < 8) : wr S 126 (nI n) x k = k (up S 126 n x) := wr_g h
theorem rd127 {β : Type} {S : St} {n : Nat} {k : Int32 → Option β} (h : n < 8) : rd S 127 (nI n) k = k (S 127 n) := rd_g h
theorem wr127 {β : Type} {S : St} {n : Nat} {x : Int32} {k : St → Option β} (h : n < 8) : wr S 127 (nI n) x k = k (up S 127 n x) := wr_g h
theorem rd128 {β : Type} {S : St} {n : Nat} {k : Int32 → Option β} (h : n < 8) : rd S 128 (nI n) k = k (S 128 n) := rd_g h
theorem wr128 {β : Type} {S : St} {n : Nat} {x : Int32} {k : St → Option β} (h : n < 8) : wr S 128 (nI n) x k = k (up S 128 n x) := wr_g h
theorem rd129 {β : Type} {S : St} {n : Nat} {k : Int32 → Option β} (h : n < 3) : rd S 129 (nI n) k = k (S 129 n) := rd_g h
theorem wr129 {β : Type} {S : St} {n : Nat} {x : Int32} {k : St → Option β} (h : n < 3) : wr S 129 (nI n) x k = k (up S 129 n x) := wr_g h
theorem rd131 {β : Type} {S : St} {n : Nat} {k : Int32 → Option β} (h : n < 106) : rd S 131 (nI n) k = k (S 131 n) := rd_g h
theorem wr131 {β : Type} {S : St} {n : Nat} {x : Int32} {k : St → Option β} (h : n < 106) : wr S 131 (nI n) x k = k (up S 131 n x) := wr_g h
theorem rd132 {β : Type} {S : St} {n : Nat} {k : Int32 → Option β} (h : n < 6) : rd S 132 (nI n) k = k (S 132 n) := rd_g h
theorem wr132 {β : Type} {S : St} {n : Nat} {x : Int32} {k : St → Option β} (h : n < 6) : wr S 132 (nI n) x k = k (up S 132 n x) := wr_g h
theorem rd133 {β : Type} {S : St} {n : Nat} {k : Int32 → Option β} (h : n < 6) : rd S 133 (nI n) k = k (S 133 n) := rd_g h
theorem wr133 {β : Type} {S : St} {n : Nat} {x : Int32} {k : St → Option β} (h : n < 6) : wr S 133 (nI n) x k = k (up S 133 n x) := wr_g h
theorem rd134 {β : Type} {S : St} {n : Nat} {k : Int32 → Option β} (h : n < 6) : rd S 134 (nI n) k = k (S 134 n) := rd_g h
theorem wr134 {β : Type} {S : St} {n : Nat} {x : Int32} {k : St → Option β} (h : n < 6) : wr S 134 (nI n) x k = k (up S 134 n x) := wr_g h
theorem rd135 {β : Type} {S : St} {n : Nat} {k : Int32 → Option β} (h : n < 8) : rd S 135 (nI n) k = k (S 135 n) := rd_g h
theorem wr135 {β : Type} {S : St} {n : Nat} {x : Int32} {k : St → Option β} (h : n < 8) : wr S 135 (nI n) x k = k (up S 135 n x) := wr_g h
theorem rd136 {β : Type} {S : St} {n : Nat} {k : Int32 → Option β} (h : n < 5) : rd S 136 (nI n) k = k (S 136 n) := rd_g h
theorem wr136 {β : Type} {S : St} {n : Nat} {x : Int32} {k : St → Option β} (h : n < 5) : wr S 136 (nI n) x k = k (up S 136 n x) := wr_g h
theorem rd138 {β : Type} {S : St} {n : Nat} {k : Int32 → Option β} (h : n < 8) : rd S 138 (nI n) k = k (S 138 n) := rd_g h
theorem wr138 {β : Type} {S : St} {n : Nat} {x : Int32} {k : St → Option β} (h : n < 8) : wr S 138 (nI n) x k = k (up S 138 n x) := wr_g h
theorem rd139 {β : Type} {S : St} {n : Nat} {k : Int32 → Option β} (h : n < 8) : rd S 139 (nI n) k = k (S 139 n) := rd_g h
theorem wr139 {β : Type} {S : St} {n : Nat} {x : Int32} {k : St → Option β} (h : n < 8) : wr S 139 (nI n) x k = k (up S 139 n x) := wr_g h
theorem rd141 {β : Type} {S : St} {n : Nat} {k : Int32 → Option β} (h : n < 2048) : rd S 141 (nI n) k = k (S 141 n) := rd_g h
theorem wr141 {β : Type} {S : St} {n : Nat} {x : Int32} {k : St → Option β} (h : n < 2048) : wr S 141 (nI n) x k = k (up S 141 n x) := wr_g h
theorem rd145 {β : Type} {S : St} {n : Nat} {k : Int32 → Option β} (h : n < 10) : rd S 145 (nI n) k = k (S 145 n) := rd_g h
theorem wr145 {β : Type} {S : St} {n : Nat} {x : Int32} {k : St → Option β} (h : n < 10) : wr S 145 (nI n) x k = k (up S 145 n x) := wr_g h
theorem rd146 {β : Type} {S : St} {n : Nat} {k : Int32 → Option β} (h : n < 16) : rd S 146 (nI n) k = k (S 146 n) := rd_g h
theorem wr146 {β : Type} {S : St} {n : Nat} {x : Int32} {k : St → Option β} (h : n < 16) : wr S 146 (nI n) x k = k (up S 146 n x) := wr_g h
theorem rd147 {β : Type} {S : St} {n : Nat} {k : Int32 → Option β} (h : n < 16) : rd S 147 (nI n) k = k (S 147 n) := rd_g h
theorem wr147 {β : Type} {S : St} {n : Nat} {x : Int32} {k : St → Option β} (h : n < 16) : wr S 147 (nI n) x k = k (up S 147 n x) := wr_g h
theorem rd148 {β : Type} {S : St} {n : Nat} {k : Int32 → Option β} (h : n < 96) : rd S 148 (nI n) k = k (S 148 n) := rd_g h
theorem wr148 {β : Type} {S : St} {n : Nat} {x : Int32} {k : St → Option β} (h : n < 96) : wr S 148 (nI n) x k = k (up S 148 n x) := wr_g h
theorem rd149 {β : Type} {S : St} {n : Nat} {k : Int32 → Option β} (h : n < 128) : rd S 149 (nI n) k = k (S 149 n) := rd_g h
theorem wr149 {β : Type} {S : St} {n : Nat} {x : Int32} {k : St → Option β} (h : n < 128) : wr S 149 (nI n) x k = k (up S 149 n x) := wr_g h
theorem rd150 {β : Type} {S : St} {n : Nat} {k : Int32 → Option β} (h : n < 72) : rd S 150 (nI n) k = k (S 150 n) := rd_g h
theorem wr150 {β : Type} {S : St} {n : Nat} {x : Int32} {k : St → Option β} (h : n < 72) : wr S 150 (nI n) x k = k (up S 150 n x) := wr_g h
theorem rd151 {β : Type} {S : St} {n : Nat} {k : Int32 → Option β} (h : n < 12) : rd S 151 (nI n) k = k (S 151 n) := rd_g h
theorem wr151 {β : Type} {S : St} {n : Nat} {x : Int32} {k : St → Option β} (h : n < 12) : wr S 151 (nI n) x k = k (up S 151 n x) := wr_g h
theorem rd152 {β : Type} {S : St} {n : Nat} {k : Int32 → Option β} (h : n < 12) : rd S 152 (nI n) k = k (S 152 n) := rd_g h
theorem wr152 {β : Type} {S : St} {n : Nat} {x : Int32} {k : St → Option β} (h : n < 12) : wr S 152 (nI n) x k = k (up S 152 n x) := wr_g h
theorem rd153 {β : Type} {S : St} {n : Nat} {k : Int32 → Option β} (h : n < 16) : rd S 153 (nI n) k = k (S 153 n) := rd_g h
theorem wr153 {β : Type} {S : St} {n : Nat} {x : Int32} {k : St → Option β} (h : n < 16) : wr S 153 (nI n) x k = k (up S 153 n x) := wr_g h
theorem rd154 {β : Type} {S : St} {n : Nat} {k : Int32 → Option β} (h : n < 1400) : rd S 154 (nI n) k = k (S 154 n) := rd_g h
theorem wr154 {β : Type} {S : St} {n : Nat} {x : Int32} {k : St → Option β} (h : n < 1400) : wr S 154 (nI n) x k = k (up S 154 n x) := wr_g h
theorem rd155 {β : Type} {S : St} {n : Nat} {k : Int32 → Option β} (h : n < 1400) : rd S 155 (nI n) k = k (S 155 n) := rd_g h
theorem wr155 {β : Type} {S : St} {n : Nat} {x : Int32} {k : St → Option β} (h : n < 1400) : wr S 155 (nI n) x k = k (up S 155 n x) := wr_g h
theorem rd156 {β : Type} {S : St} {n : Nat} {k : Int32 → Option β} (h : n < 3) : rd S 156 (nI n) k = k (S 156 n) := rd_g h
theorem wr156 {β : Type} {S : St} {n : Nat} {x : Int32} {k : St → Option β} (h : n < 3) : wr S 156 (nI n) x k = k (up S 156 n x) := wr_g h
theorem rd157 {β : Type} {S : St} {n : Nat} {k : Int32 → Option β} (h : n < 700) : rd S 157 (nI n) k = k (S 157 n) := rd_g h
theorem wr157 {β : Type} {S : St} {n : Nat} {x : Int32} {k : St → Option β} (h : n < 700) : wr S 157 (nI n) x k = k (up S 157 n x) := wr_g h
theorem rd158 {β : Type} {S : St} {n : Nat} {k : Int32 → Option β} (h : n < 6) : rd S 158 (nI n) k = k (S 158 n) := rd_g h
theorem wr158 {β : Type} {S : St} {n : Nat} {x : Int32} {k : St → Option β} (h : n < 6) : wr S 158 (nI n) x k = k (up S 158 n x) := wr_g h
theorem rd159 {β : Type} {S : St} {n : Nat} {k : Int32 → Option β} (h : n < 6) : rd S 159 (nI n) k = k (S 159 n) := rd_g h
theorem wr159 {β : Type} {S : St} {n : Nat} {x : Int32} {k : St → Option β} (h : n < 6) : wr S 159 (nI n) x k = k (up S 159 n x) := wr_g h
theorem rd160 {β : Type} {S : St} {n : Nat} {k : Int32 → Option β} (h : n < 48) : rd S 160 (nI n) k = k (S 160 n) := rd_g h
theorem wr160 {β : Type} {S : St} {n : Nat} {x : Int32} {k : St → Option β} (h : n < 48) : wr S 160 (nI n) x k = k (up S 160 n x) := wr_g h
theorem rd161 {β : Type} {S : St} {n : Nat} {k : Int32 → Option β} (h : n < 36) : rd S 161 (nI n) k = k (S 161 n) := rd_g h
theorem wr161 {β : Type} {S : St} {n : Nat} {x : Int32} {k : St → Option β} (h : n < 36) : wr S 161 (nI n) x k = k (up S 161 n x) := wr_g h
theorem rd162 {β : Type} {S : St} {n : Nat} {k : Int32 → Option β} (h : n < 8) : rd S 162 (nI n) k = k (S 162 n) := rd_g h
theorem wr162 {β : Type} {S : St} {n : Nat} {x : Int32} {k : St → Option β} (h : n < 8) : wr S 162 (nI n) x k = k (up S 162 n x) := wr_g h
theorem rd163 {β : Type} {S : St} {n : Nat} {k : Int32 → Option β} (h : n < 4240) : rd S 163 (nI n) k = k (S 163 n) := rd_g h
theorem wr163 {β : Type} {S : St} {n : Nat} {x : Int32} {k : St → Option β} (h : n < 4240) : wr S 163 (nI n) x k = k (up S 163 n x) := wr_g h
theorem rd164 {β : Type} {S : St} {n : Nat} {k : Int32 → Option β} (h : n < 64) : rd S 164 (nI n) k = k (S 164 n) := rd_g h
theorem wr164 {β : Type} {S : St} {n : Nat} {x : Int32} {k : St → Option β} (h : n < 64) : wr S 164 (nI n) x k = k (up S 164 n x) := wr_g h
theorem rd165 {β : Type} {S : St} {n : Nat} {k : Int32 → Option β} (h : n < 5) : rd S 165 (nI n) k = k (S 165 n) := rd_g h
theorem wr165 {β : Type} {S : St} {n : Nat} {x : Int32} {k : St → Option β} (h : n < 5) : wr S 165 (nI n) x k = k (up S 165 n x) := wr_g h
theorem rd166 {β : Type} {S : St} {n : Nat} {k : Int32 → Option β} (h : n < 64) : rd S 166 (nI n) k = k (S 166 n) := rd_g h
theorem wr166 {β : Type} {S : St} {n : Nat} {x : Int32} {k : St → Option β} (h : n < 64) : wr S 166 (nI n) x k = k (up S 166 n x) := wr_g h
theorem rd167 {β : Type} {S : St} {n : Nat} {k : Int32 → Option β} (h : n < 6) : rd S 167 (nI n) k = k (S 167 n) := rd_g h
theorem wr167 {β : Type} {S : St} {n : Nat} {x : Int32} {k : St → Option β} (h : n < 6) : wr S 167 (nI n) x k = k (up S 167 n x) := wr_g h
theorem rd168 {β : Type} {S : St} {n : Nat} {k : Int32 → Option β} (h : n < 6) : rd S 168 (nI n) k = k (S 168 n) := rd_g h
theorem wr168 {β : Type} {S : St} {n : Nat} {x : Int32} {k : St → Option β} (h : n < 6) : wr S 168 (nI n) x k = k (up S 168 n x) := wr_g h
theorem rd169 {β : Type} {S : St} {n : Nat} {k : Int32 → Option β} (h : n < 106) : rd S 169 (nI n) k = k (S 169 n) := rd_g h
theorem wr169 {β : Type} {S : St} {n : Nat} {x : Int32} {k : St → Option β} (h : n < 106) : wr S 169 (nI n) x k = k (up S 169 n x) := wr_g h
theorem rd170 {β : Type} {S : St} {n : Nat} {k : Int32 → Option β} (h : n < 7) : rd S 170 (nI n) k = k (S 170 n) := rd_g h
theorem wr170 {β : Type} {S : St} {n : Nat} {x : Int32} {k : St → Option β} (h : n < 7) : wr S 170 (nI n) x k = k (up S 170 n x) := wr_g h
theorem rd171 {β : Type} {S : St} {n : Nat} {k : Int32 → Option β} (h : n < 2048) : rd S 171 (nI n) k = k (S 171 n) := rd_g h
theorem wr171 {β : Type} {S : St} {n : Nat} {x : Int32} {k : St → Option β} (h : n < 2048) : wr S 171 (nI n) x k = k (up S 171 n x) := wr_g h
theorem rd172 {β : Type} {S : St} {n : Nat} {k : Int32 → Option β} (h : n < 4) : rd S 172 (nI n) k = k (S 172 n) := rd_g h
theorem wr172 {β : Type} {S : St} {n : Nat} {x : Int32} {k : St → Option β} (h : n < 4) : wr S 172 (nI n) x k = k (up S 172 n x) := wr_g h
theorem rd173 {β : Type} {S : St} {n : Nat} {k : Int32 → Option β} (h : n < 8) : rd S 173 (nI n) k = k (S 173 n) := rd_g h
theorem wr173 {β : Type} {S : St} {n : Nat} {x : Int32} {k : St → Option β} (h : n < 8) : wr S 173 (nI n) x k = k (up S 173 n x) := wr_g h
theorem rd174 {β : Type} {S : St} {n : Nat} {k : Int32 → Option β} (h : n < 8) : rd S 174 (nI n) k = k (S 174 n) := rd_g h
theorem wr174 {β : Type} {S : St} {n : Nat} {x : Int32} {k : St → Option β} (h : n < 8) : wr S 174 (nI n) x k = k (up S 174 n x) := wr_g h
theorem rd175 {β : Type} {S : St} {n : Nat} {k : Int32 → Option β} (h : n < 8) : rd S 175 (nI n) k = k (S 175 n) := rd_g h
theorem wr175 {β : Type} {S : St} {n : Nat} {x : Int32} {k : St → Option β} (h : n < 8) : wr S 175 (nI n) x k = k (up S 175 n x) := wr_g h
theorem rd176 {β : Type} {S : St} {n : Nat} {k : Int32 → Option β} (h : n < 106) : rd S 176 (nI n) k = k (S 176 n) := rd_g h
theorem wr176 {β : Type} {S : St} {n : Nat} {x : Int32} {k : St → Option β} (h : n < 106) : wr S 176 (nI n) x k = k (up S 176 n x) := wr_g h
theorem rd177 {β : Type} {S : St} {n : Nat} {k : Int32 → Option β} (h : n < 8) : rd S 177 (nI n) k = k (S 177 n) := rd_g h
theorem wr177 {β : Type} {S : St} {n : Nat} {x : Int32} {k : St → Option β} (h : n < 8) : wr S 177 (nI n) x k = k (up S 177 n x) := wr_g h
theorem rd178 {β : Type} {S : St} {n : Nat} {k : Int32 → Option β} (h : n < 288) : rd S 178 (nI n) k = k (S 178 n) := rd_g h
theorem wr178 {β : Type} {S : St} {n : Nat} {x : Int32} {k : St → Option β} (h : n < 288) : wr S 178 (nI n) x k = k (up S 178 n x) := wr_g h
theorem rd179 {β : Type} {S : St} {n : Nat} {k : Int32 → Option β} (h : n < 2304) : rd S 179 (nI n) k = k (S 179 n) := rd_g h
theorem wr179 {β : Type} {S : St} {n : Nat} {x : Int32} {k : St → Option β} (h : n < 2304) : wr S 179 (nI n) x k = k (up S 179 n x) := wr_g h
theorem rd180 {β : Type} {S : St} {n : Nat} {k : Int32 → Option β} (h : n < 106) : rd S 180 (nI n) k = k (S 180 n) := rd_g h
theorem wr180 {β : Type} {S : St} {n : Nat} {x : Int32} {k : St → Option β} (h : n < 106) : wr S 180 (nI n) x k = k (up S 180 n x) := wr_g h
theorem rd181 {β : Type} {S : St} {n : Nat} {k : Int32 → Option β} (h : n < 4240) : rd S 181 (nI n) k = k (S 181 n) := rd_g h
theorem wr181 {β : Type} {S : St} {n : Nat} {x : Int32} {k : St → Option β} (h : n < 4240) : wr S 181 (nI n) x k = k (up S 181 n x) := wr_g h
theorem rd182 {β : Type} {S : St} {n : Nat} {k : Int32 → Option β} (h : n < 8) : rd S 182 (nI n) k = k (S 182 n) := rd_g h
theorem wr182 {β : Type} {S : St} {n : Nat} {x : Int32} {k : St → Option β} (h : n < 8) : wr S 182 (nI n) x k = k (up S 182 n x) := wr_g h
theorem rd183 {β : Type} {S : St} {n : Nat} {k : Int32 → Option β} (h : n < 8) : rd S 183 (nI n) k = k (S 183 n) := rd_g h
theorem wr183 {β : Type} {S : St} {n : Nat} {x : Int32} {k : St → Option β} (h : n < 8) : wr S 183 (nI n) x k = k (up S 183 n x) := wr_g h
theorem rd184 {β : Type} {S : St} {n : Nat} {k : Int32 → Option β} (h : n < 8) : rd S 184 (nI n) k = k (S 184 n) := rd_g h
theorem wr184 {β : Type} {S : St} {n : Nat} {x : Int32} {k : St → Option β} (h : n < 8) : wr S 184 (nI n) x k = k (up S 184 n x) := wr_g h
theorem rd185 {β : Type} {S : St} {n : Nat} {k : Int32 → Option β} (h : n < 3) : rd S 185 (nI n) k = k (S 185 n) := rd_g h
theorem wr185 {β : Type} {S : St} {n : Nat} {x : Int32} {k : St → Option β} (h : n < 3) : wr S 185 (nI n) x k = k (up S 185 n x) := wr_g h
theorem rd37_0 {β : Type} {S : St} {k : Int32 → Option β} : rd S 37 0 k = k (S 37 0) := rd_g (a := 37) (n := 0) (by decide)
theorem rd37_1 {β : Type} {S : St} {k : Int32 → Option β} : rd S 37 1 k = k (S 37 1) := rd_g (a := 37) (n := 1) (by decide)
theorem rd131_0 {β : Type} {S : St} {k : Int32 → Option β} : rd S 131 0 k = k (S 131 0) := rd_g (a := 131) (n := 0) (by decide)
theorem rd131_1 {β : Type} {S : St} {k : Int32 → Option β} : rd S 131 1 k = k (S 131 1) := rd_g (a := 131) (n := 1) (by decide)
theorem rd131_8 {β : Type} {S : St} {k : Int32 → Option β} : rd S 131 8 k = k (S 131 8) := rd_g (a := 131) (n := 8) (by decide)
theorem rd145_0 {β : Type} {S : St} {k : Int32 → Option β} : rd S 145 0 k = k (S 145 0) := rd_g (a := 145) (n := 0) (by decide)
theorem rd145_2 {β : Type} {S : St} {k : Int32 → Option β} : rd S 145 2 k = k (S 145 2) := rd_g (a := 145) (n := 2) (by decide)
theorem rd145_3 {β : Type} {S : St} {k : Int32 → Option β} : rd S 145 3 k = k (S 145 3) := rd_g (a := 145) (n := 3) (by decide)
theorem rd145_4 {β : Type} {S : St} {k : Int32 → Option β} : rd S 145 4 k = k (S 145 4) := rd_g (a := 145) (n := 4) (by decide)
theorem rd145_5 {β : Type} {S : St} {k : Int32 → Option β} : rd S 145 5 k = k (S 145 5) := rd_g (a := 145) (n := 5) (by decide)
theorem rd145_6 {β : Type} {S : St} {k : Int32 → Option β} : rd S 145 6 k = k (S 145 6) := rd_g (a := 145) (n := 6) (by decide)
theorem rd145_7 {β : Type} {S : St} {k : Int32 → Option β} : rd S 145 7 k = k (S 145 7) := rd_g (a := 145) (n := 7) (by decide)
theorem rd156_0 {β : Type} {S : St} {k : Int32 → Option β} : rd S 156 0 k = k (S 156 0) := rd_g (a := 156) (n := 0) (by decide)
theorem rd156_1 {β : Type} {S : St} {k : Int32 → Option β} : rd S 156 1 k = k (S 156 1) := rd_g (a := 156) (n := 1) (by decide)
theorem rd166_0 {β : Type} {S : St} {k : Int32 → Option β} : rd S 166 0 k = k (S 166 0) := rd_g (a := 166) (n := 0) (by decide)
theorem rd178_0 {β : Type} {S : St} {k : Int32 → Option β} : rd S 178 0 k = k (S 178 0) := rd_g (a := 178) (n := 0) (by decide)
theorem wr131_0 {β : Type} {S : St} {x : Int32} {k : St → Option β} : wr S 131 0 x k = k (up S 131 0 x) := wr_g (a := 131) (n := 0) (by decide)
theorem wr131_1 {β : Type} {S : St} {x : Int32} {k : St → Option β} : wr S 131 1 x k = k (up S 131 1 x) := wr_g (a := 131) (n := 1) (by decide)
theorem wr136_0 {β : Type} {S : St} {x : Int32} {k : St → Option β} : wr S 136 0 x k = k (up S 136 0 x) := wr_g (a := 136) (n := 0) (by decide)
theorem wr136_1 {β : Type} {S : St} {x : Int32} {k : St → Option β} : wr S 136 1 x k = k (up S 136 1 x) := wr_g (a := 136) (n := 1) (by decide)
theorem wr136_2 {β : Type} {S : St} {x : Int32} {k : St → Option β} : wr S 136 2 x k = k (up S 136 2 x) := wr_g (a := 136) (n := 2) (by decide)
theorem wr136_3 {β : Type} {S : St} {x : Int32} {k : St → Option β} : wr S 136 3 x k = k (up S 136 3 x) := wr_g (a := 136) (n := 3) (by decide)
theorem wr136_4 {β : Type} {S : St} {x : Int32} {k : St → Option β} : wr S 136 4 x k = k (up S 136 4 x) := wr_g (a := 136) (n := 4) (by decide)
theorem wr141_8 {β : Type} {S : St} {x : Int32} {k : St → Option β} : wr S 141 8 x k = k (up S 141 8 x) := wr_g (a := 141) (n := 8) (by decide)
theorem wr145_5 {β : Type} {S : St} {x : Int32} {k : St → Option β} : wr S 145 5 x k = k (up S 145 5 x) := wr_g (a := 145) (n := 5) (by decide)
theorem wr145_6 {β : Type} {S : St} {x : Int32} {k : St → Option β} : wr S 145 6 x k = k (up S 145 6 x) := wr_g (a := 145) (n := 6) (by decide)
theorem wr145_7 {β : Type} {S : St} {x : Int32} {k : St → Option β} : wr S 145 7 x k = k (up S 145 7 x) := wr_g (a := 145) (n := 7) (by decide)
theorem wr156_0 {β : Type} {S : St} {x : Int32} {k : St → Option β} : wr S 156 0 x k = k (up S 156 0 x) := wr_g (a := 156) (n := 0) (by decide)
theorem wr156_1 {β : Type} {S : St} {x : Int32} {k : St → Option β} : wr S 156 1 x k = k (up S 156 1 x) := wr_g (a := 156) (n := 1) (by decide)
theorem wr165_0 {β : Type} {S : St} {x : Int32} {k : St → Option β} : wr S 165 0 x k = k (up S 165 0 x) := wr_g (a := 165) (n := 0) (by decide)
theorem wr165_1 {β : Type} {S : St} {x : Int32} {k : St → Option β} : wr S 165 1 x k = k (up S 165 1 x) := wr_g (a := 165) (n := 1) (by decide)
theorem wr165_2 {β : Type} {S : St} {x : Int32} {k : St → Option β} : wr S 165 2 x k = k (up S 165 2 x) := wr_g (a := 165) (n := 2) (by decide)
theorem wr165_3 {β : Type} {S : St} {x : Int32} {k : St → Option β} : wr S 165 3 x k = k (up S 165 3 x) := wr_g (a := 165) (n := 3) (by decide)
theorem wr165_4 {β : Type} {S : St} {x : Int32} {k : St → Option β} : wr S 165 4 x k = k (up S 165 4 x) := wr_g (a := 165) (n := 4) (by decide)
