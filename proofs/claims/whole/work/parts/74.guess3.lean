/-! the steps that were otherwise: the class -/
def lsX (V : Vy) (r : Rw) (f : Nat) : Nat := (lsI V r f + 1).toNatClampNeg
theorem lsX_is {V : Vy} {r : Rw} {f : Nat} : lsX V r f ≤ 8 ∧ lsI V r f + 1 = nI (lsX V r f) ∧ ∀ r', lsX V r f = lsX V r' f → lsI V r f = lsI V r' f := by
  have key : ∀ q, (lsI V q f = -1 ∧ lsX V q f = 0) ∨ ∃ i, i < 8 ∧ lsI V q f = nI i ∧ lsX V q f = i + 1 := by
    intro q
    rcases (lsI_is : isF (suB V q f) 8 (lsI V q f)) with ⟨i, hi, -, -, e⟩ | ⟨-, e⟩
    · refine Or.inr ⟨i, hi, e, ?_⟩
      unfold lsX; rw [e, nI_1, nI_clamp (by omega)]
    · refine Or.inl ⟨e, ?_⟩
      unfold lsX; rw [e]; rfl
  refine ⟨?_, ?_, fun r' h => ?_⟩
  · rcases key r with ⟨-, e⟩ | ⟨i, hi, -, e⟩ <;> omega
  · rcases key r with ⟨e1, e⟩ | ⟨i, hi, e1, e⟩
    · rw [e, e1]; rfl
    · rw [e, e1, nI_1]
  · rcases key r with ⟨e1, e⟩ | ⟨i, hi, e1, e⟩ <;> rcases key r' with ⟨e1', e'⟩ | ⟨i', hi', e1', e'⟩
    · rw [e1, e1']
    · omega
    · omega
    · rw [e1, e1', show i = i' by omega]
theorem sh_N : ∀ b, b < 9 → ((1 : Int32) <<< (nI b &&& 31)) = nI (2 ^ b) := by decide +kernel
theorem C_add {S : St} {F : Nat} (hF : F ≤ 8) (h5 : S 137 5 = nI F) {c n : Nat} (h1 : S 137 1 = nI n) (hn : n < 1000) : ok (fX1_addFound (nI c) S) (fun S' => S' 137 1 = nI (n + 1) ∧ S' 137 2 = (if n = 0 then nI c else S 137 2) ∧ S' 137 5 = nI F ∧ (∀ f, f < F → S' 138 f = S 138 f ||| ((1 : Int32) <<< ((S 139 f + 1) &&& 31))) ∧ ∀ a, a ≠ 137 → a ≠ 138 → S' a = S a) := by
  have main : ∀ x, ok (BX1_addFound_16 x S) (fun S' => S' 137 1 = nI (n + 1) ∧ S' 137 2 = x ∧ S' 137 5 = nI F ∧ (∀ f, f < F → S' 138 f = S 138 f ||| ((1 : Int32) <<< ((S 139 f + 1) &&& 31))) ∧ ∀ a, a ≠ 137 → a ≠ 138 → S' a = S a) := by
    intro x
    unfold BX1_addFound_16
    rw [pf_s, up_off (by decide), h1, pf_s, nI_1]
    generalize hT : up (up S 137 2 x) 137 1 (nI (n + 1)) = T
    have t1 : T 137 1 = nI (n + 1) := by rw [← hT, up_at]
    have t2 : T 137 2 = x := by rw [← hT, up_off (by decide), up_at]
    have t5 : T 137 5 = nI F := by rw [← hT, up_off (by decide), up_off (by decide)]; exact h5
    have tr : ∀ a, a ≠ 137 → T a = S a := fun a ha => by rw [← hT, up_ne ha, up_ne ha]
    refine ok_for (fun k f U => LX1_addFound_31 k (nI f) U) _ (fun f U => (∀ f', f' < f → U 138 f' = S 138 f' ||| ((1 : Int32) <<< ((S 139 f' + 1) &&& 31))) ∧ (∀ f', f ≤ f' → U 138 f' = S 138 f') ∧ ∀ a, a ≠ 138 → U a = T a) F ?_ ?_ FU 0 T (by omega) (by unfold FU; omega) ⟨fun f' hf' => absurd hf' (by omega), fun f' _ => by rw [tr 138 (by decide)], fun _ _ => rfl⟩
    · intro k U hU
      obtain ⟨u1, u2, u3⟩ := hU
      simp (disch := omega) only [LX1_addFound_31, KX1_addFound_31, u3 137 (by decide), t5, nI_leE, nI_ltE, nI_eqE, nI_m1, c0a, c0b, c0c, c0d, c0e, c1a, c1b, c1c, c1d, c1e, c2a, c2b, c2c, c2d, c2e, c3a, c3b, c3c, c3d, c3e, c4a, c4b, c4c, c4d, c4e, c5a, c5b, c5c, c5d, c5e, c6a, c6b, c6c, c6d, c6e, c7a, c7b, c7c, c7d, c7e, c8a, c8b, c8c, c8d, c8e, c9a, c9b, c9c, c9d, c9e, c10a, c10b, c10c, c10d, c10e, c12a, c12b, c12c, c12d, c12e, c14a, c14b, c14c, c14d, c14e, c16a, c16b, c16c, c16d, c16e, c20a, c20b, c20c, c20d, c20e, c30a, c30b, c30c, c30d, c30e, c32a, c32b, c32c, c32d, c32e, c36a, c36b, c36c, c36d, c36e, c40a, c40b, c40c, c40d, c40e, c41a, c41b, c41c, c41d, c41e, c42a, c42b, c42c, c42d, c42e, c43a, c43b, c43c, c43d, c43e, c45a, c45b, c45c, c45d, c45e, c47a, c47b, c47c, c47d, c47e, c48a, c48b, c48c, c48d, c48e, c57a, c57b, c57c, c57d, c57e, c59a, c59b, c59c, c59d, c59e, c60a, c60b, c60c, c60d, c60e, c61a, c61b, c61c, c61d, c61e, c62a, c62b, c62c, c62d, c62e, c64a, c64b, c64c, c64d, c64e, c96a, c96b, c96c, c96d, c96e, c97a, c97b, c97c, c97d, c97e, c98a, c98b, c98c, c98d, c98e, c99a, c99b, c99c, c99d, c99e, c100a, c100b, c100c, c100d, c100e, c122a, c122b, c122c, c122d, c122e, c700a, c700b, c700c, c700d, c700e, c4240a, c4240b, c4240c, c4240d, c4240e, c9999a, c9999b, c9999c, c9999d, c9999e, c100000a, c100000b, c100000c, c100000d, c100000e, c1000000a, c1000000b, c1000000c, c1000000d, c1000000e, if_T]
      exact ok_some ⟨by rw [u3 137 (by decide)]; exact t1, by rw [u3 137 (by decide)]; exact t2, by rw [u3 137 (by decide)]; exact t5, u1, fun a a1 a2 => (u3 a a2).trans (tr a a1)⟩
    · intro k f U hf hU ih
      obtain ⟨u1, u2, u3⟩ := hU
      have e139 : U 139 f = S 139 f := by rw [u3 139 (by decide), tr 139 (by decide)]
      simp (disch := omega) only [LX1_addFound_31, KX1_addFound_31, u3 137 (by decide), t5, nI_leE, nI_ltE, nI_eqE, nI_m1, c0a, c0b, c0c, c0d, c0e, c1a, c1b, c1c, c1d, c1e, c2a, c2b, c2c, c2d, c2e, c3a, c3b, c3c, c3d, c3e, c4a, c4b, c4c, c4d, c4e, c5a, c5b, c5c, c5d, c5e, c6a, c6b, c6c, c6d, c6e, c7a, c7b, c7c, c7d, c7e, c8a, c8b, c8c, c8d, c8e, c9a, c9b, c9c, c9d, c9e, c10a, c10b, c10c, c10d, c10e, c12a, c12b, c12c, c12d, c12e, c14a, c14b, c14c, c14d, c14e, c16a, c16b, c16c, c16d, c16e, c20a, c20b, c20c, c20d, c20e, c30a, c30b, c30c, c30d, c30e, c32a, c32b, c32c, c32d, c32e, c36a, c36b, c36c, c36d, c36e, c40a, c40b, c40c, c40d, c40e, c41a, c41b, c41c, c41d, c41e, c42a, c42b, c42c, c42d, c42e, c43a, c43b, c43c, c43d, c43e, c45a, c45b, c45c, c45d, c45e, c47a, c47b, c47c, c47d, c47e, c48a, c48b, c48c, c48d, c48e, c57a, c57b, c57c, c57d, c57e, c59a, c59b, c59c, c59d, c59e, c60a, c60b, c60c, c60d, c60e, c61a, c61b, c61c, c61d, c61e, c62a, c62b, c62c, c62d, c62e, c64a, c64b, c64c, c64d, c64e, c96a, c96b, c96c, c96d, c96e, c97a, c97b, c97c, c97d, c97e, c98a, c98b, c98c, c98d, c98e, c99a, c99b, c99c, c99d, c99e, c100a, c100b, c100c, c100d, c100e, c122a, c122b, c122c, c122d, c122e, c700a, c700b, c700c, c700d, c700e, c4240a, c4240b, c4240c, c4240d, c4240e, c9999a, c9999b, c9999c, c9999d, c9999e, c100000a, c100000b, c100000c, c100000d, c100000e, c1000000a, c1000000b, c1000000c, c1000000d, c1000000e, if_F, rd138, rd139, wr138, u2 f (Nat.le_refl _), e139, vl_s, ra1]
      refine ih _ ⟨fun f' hf' => ?_, fun f' hf' => ?_, fun a ha => by rw [up_ne ha]; exact u3 a ha⟩
      · rw [up_row]
        by_cases c : f' = f
        · subst c; rw [upd_at]
        · rw [upd_ne c]; exact u1 f' (by omega)
      · rw [up_off (by omega)]; exact u2 f' (by omega)
  unfold fX1_addFound
  rw [h1]
  by_cases c : n = 0
  · subst c
    rw [if_pos (by rfl), if_pos rfl]; exact main _
  · rw [if_neg (by rw [show (0 : Int32) = nI 0 from rfl, nI_eq (by omega) (by omega)]; exact c), if_neg c]; exact main _
/-- a step: its code; the row with it -/
def rwC (r : Rw) (c : Nat) : Rw := upd r (62 + c / 100 * 6 + c / 10 % 10) (nI (c % 10))
def fdF (P : Nat → Bool) (c0 : Nat) : Nat → List Nat
  | 0 => []
  | f + 1 => fdF P c0 f ++ (if P (c0 + f) then [c0 + f] else [])
def fdI (P : Nat → Bool) (F s : Nat) : Nat → List Nat
  | 0 => []
  | i + 1 => fdI P F s i ++ fdF P (s * 100 + i * 10) F
def fdS (P : Nat → Bool) (F : Nat) (w : Nat → Nat) : Nat → List Nat
  | 0 => []
  | s + 1 => fdS P F w s ++ fdI P F s (w s)
theorem fdF_len {P : Nat → Bool} {c0 : Nat} : ∀ f, (fdF P c0 f).length ≤ f := by
  intro f
  induction f with
  | zero => exact Nat.le_refl _
  | succ f ih =>
    show (fdF P c0 f ++ (if P (c0 + f) then [c0 + f] else [])).length ≤ f + 1
    rw [List.length_append]
    split
    · show _ + 1 ≤ _; omega
    · show _ + 0 ≤ _; omega
theorem fdI_len {P : Nat → Bool} {F s : Nat} : ∀ i, (fdI P F s i).length ≤ i * F := by
  intro i
  induction i with
  | zero => exact Nat.zero_le _
  | succ i ih =>
    show (fdI P F s i ++ fdF P (s * 100 + i * 10) F).length ≤ (i + 1) * F
    rw [List.length_append, Nat.add_mul, Nat.one_mul]
    have := fdF_len (P := P) (c0 := s * 100 + i * 10) F
    omega
theorem fdS_len {P : Nat → Bool} {F : Nat} {w : Nat → Nat} (hF : F ≤ 8) : ∀ s, (∀ q, q < s → w q ≤ 6) → (fdS P F w s).length ≤ s * 48 := by
  intro s
  induction s with
  | zero => intro _; exact Nat.zero_le _
  | succ s ih =>
    intro hw
    show (fdS P F w s ++ fdI P F s (w s)).length ≤ (s + 1) * 48
    rw [List.length_append]
    have h1 := ih (fun q hq => hw q (by omega))
    have h2 := fdI_len (P := P) (F := F) (s := s) (w s)
    have h3 : w s * F ≤ 6 * 8 := Nat.mul_le_mul (hw s (by omega)) hF
    omega
def hdL (L : List Nat) : Int32 := match L with
  | [] => -1
  | c :: _ => nI c
theorem hdL_app {L : List Nat} {c : Nat} : hdL (L ++ [c]) = if L.length = 0 then nI c else hdL L := by
  cases L with
  | nil => rfl
  | cons a b => rfl
def orL9 (V : Vy) (r : Rw) (f : Nat) (L : List Nat) : Nat := L.foldl (fun k c => k ||| 2 ^ lsX V (rwC r c) f) 0
theorem orL9_app {V : Vy} {r : Rw} {f c : Nat} {L : List Nat} : orL9 V r f (L ++ [c]) = orL9 V r f L ||| 2 ^ lsX V (rwC r c) f := by
  unfold orL9
  rw [List.foldl_append]; rfl
theorem orL9_lt {V : Vy} {r : Rw} {f : Nat} : ∀ (L : List Nat) (k : Nat), k < 512 → L.foldl (fun k c => k ||| 2 ^ lsX V (rwC r c) f) k < 512 := by
  intro L
  induction L with
  | nil => intro k hk; exact hk
  | cons c L ih =>
    intro k hk
    refine ih _ ?_
    have h8 := (lsX_is (V := V) (r := rwC r c) (f := f)).1
    exact or_lt (n := 9) hk (pw_lt (F := 9) (by omega))
theorem ROk_w {V : Vy} (hV : VOk V) {hm : Nat} {r : Rw} (hr : ROk V hm r) {s i f : Nat} (hs : s < 6) (hi : i < 6) (hf : f < vF V) : ROk V hm (upd r (62 + s * 6 + i) (nI f)) := by
  have hS6 := hV.2.1
  obtain ⟨h0, h1, h2, h3, h4, h5⟩ := hr
  refine ⟨by rw [upd_ne (by omega)]; exact h0, fun q hq => by rw [upd_ne (by omega)]; exact h1 q hq, fun q hq => by rw [upd_ne (by omega)]; exact h2 q hq, fun a b ha hb => by have := hV.1; rw [upd_ne (by omega)]; exact h3 a b ha hb, fun q j hq hj => ?_, fun t ht => by rw [upd_ne (by omega)]; exact h5 t ht⟩
  unfold upd
  split
  · exact ⟨f, hf, rfl⟩
  · exact h4 q j hq hj
theorem code_d {s i f : Nat} (hi : i < 6) (hf : f < 8) : (s * 100 + i * 10 + f) / 100 = s ∧ (s * 100 + i * 10 + f) / 10 % 10 = i ∧ (s * 100 + i * 10 + f) % 10 = f := by omega
def stP (V : Vy) (r : Rw) (m : Nat) (hF hK : Nat → Nat) (hT : Nat → Int32) (c : Nat) : Bool := decide (¬ nI (c % 10) = r (62 + c / 100 * 6 + c / 10 % 10)) && asH V (rwC r c) m hF hK hT
/-- all steps by which all that is heard would be so -/
def fnd (V : Vy) (r : Rw) (m : Nat) (hF hK : Nat → Nat) (hT : Nat → Int32) : List Nat := fdS (stP V r m hF hK hT) (vF V) (vW V) (vS' V)
def Ex (V : Vy) (S : St) (L : List Nat) (T : St) : Prop := T 137 1 = nI L.length ∧ T 137 2 = hdL L ∧ T 137 5 = nI (vF V) ∧ (∀ f, f < vF V → T 138 f = nI (orL9 V (S 37) f L)) ∧ cK S T
theorem C_explore {V : Vy} {v d : Nat} {S : St} (hR : Rl V v d S) {m : Nat} {hF hK : Nat → Nat} {hT : Nat → Int32} (hh : Hd V m hF hK hT) (hc : HdC m hF hK hT S) : ok (fX1_explore v 36 S) (fun T => Ex V S (fnd V (S 37) m hF hK hT) T) := by
  have hV := hR.vk
  have hS6 := hV.2.1
  have hF8 := hV.1
  have hv := hR.hv
  have hW := hV.2.2.1
  have eS := hR.C.2.2.2.1
  have eW := hR.C.2.2.2.2.1
  generalize hPe : stP V (S 37) m hF hK hT = P
  have goCK : ∀ {T}, cK S T → T v = S v ∧ T (v + 6) = S (v + 6) ∧ T 37 = S 37 := fun h => ⟨h v (by omega) (by omega) (by omega) (by omega) (by omega), h (v + 6) (by omega) (by omega) (by omega) (by omega) (by omega), h 37 (by omega) (by omega) (by omega) (by omega) (by omega)⟩
  unfold fX1_explore
  rw [pf_s, pf_s, pf_s]
  generalize hS0 : up (up (up S 137 1 0) 137 2 (-1)) 137 5 (up (up S 137 1 0) 137 2 (-1) v 0) = S0
  have s1 : S0 137 1 = 0 := by rw [← hS0, up_off (by decide), up_off (by decide), up_at]
  have s2 : S0 137 2 = -1 := by rw [← hS0, up_off (by decide), up_at]
  have s5 : S0 137 5 = nI (vF V) := by rw [← hS0, up_at, up_ne (by omega), up_ne (by omega)]; exact hR.C.2.2.1
  have s6 : ∀ a, a ≠ 137 → S0 a = S a := fun a ha => by rw [← hS0, up_ne ha, up_ne ha, up_ne ha]
  obtain ⟨S1, e1, g1, g2⟩ := C_fill (a := 138) (x := 0) (S := S0)
  rw [e1, bv_s]
  have start : Ex V S [] S1 := by
    refine ⟨by rw [g2 137 (by decide)]; exact s1, by rw [g2 137 (by decide)]; exact s2, by rw [g2 137 (by decide)]; exact s5, fun f hf => ?_, fun a h1 h2 h3 h4 h5 => by rw [g2 a (by omega)]; exact s6 a (by omega)⟩
    rw [g1 f (by show f < 8; omega)]; rfl
  refine ok_for (fun k s T => LX1_explore_28 k v 36 (nI s) T) _ (fun s T => Ex V S (fdS P (vF V) (vW V) s) T) (vS' V) ?_ ?_ FU 0 S1 (by omega) (by unfold FU; omega) start
  · intro k T hT1
    have hk := hT1.2.2.2.2
    simp (disch := omega) only [LX1_explore_28, KX1_explore_28, (goCK hk).1, eS, nI_leE, nI_ltE, nI_eqE, nI_m1, c0a, c0b, c0c, c0d, c0e, c1a, c1b, c1c, c1d, c1e, c2a, c2b, c2c, c2d, c2e, c3a, c3b, c3c, c3d, c3e, c4a, c4b, c4c, c4d, c4e, c5a, c5b, c5c, c5d, c5e, c6a, c6b, c6c, c6d, c6e, c7a, c7b, c7c, c7d, c7e, c8a, c8b, c8c, c8d, c8e, c9a, c9b, c9c, c9d, c9e, c10a, c10b, c10c, c10d, c10e, c12a, c12b, c12c, c12d, c12e, c14a, c14b, c14c, c14d, c14e, c16a, c16b, c16c, c16d, c16e, c20a, c20b, c20c, c20d, c20e, c30a, c30b, c30c, c30d, c30e, c32a, c32b, c32c, c32d, c32e, c36a, c36b, c36c, c36d, c36e, c40a, c40b, c40c, c40d, c40e, c41a, c41b, c41c, c41d, c41e, c42a, c42b, c42c, c42d, c42e, c43a, c43b, c43c, c43d, c43e, c45a, c45b, c45c, c45d, c45e, c47a, c47b, c47c, c47d, c47e, c48a, c48b, c48c, c48d, c48e, c57a, c57b, c57c, c57d, c57e, c59a, c59b, c59c, c59d, c59e, c60a, c60b, c60c, c60d, c60e, c61a, c61b, c61c, c61d, c61e, c62a, c62b, c62c, c62d, c62e, c64a, c64b, c64c, c64d, c64e, c96a, c96b, c96c, c96d, c96e, c97a, c97b, c97c, c97d, c97e, c98a, c98b, c98c, c98d, c98e, c99a, c99b, c99c, c99d, c99e, c100a, c100b, c100c, c100d, c100e, c122a, c122b, c122c, c122d, c122e, c700a, c700b, c700c, c700d, c700e, c4240a, c4240b, c4240c, c4240d, c4240e, c9999a, c9999b, c9999c, c9999d, c9999e, c100000a, c100000b, c100000c, c100000d, c100000e, c1000000a, c1000000b, c1000000c, c1000000d, c1000000e, if_T]
    refine ok_some ?_
    show Ex V S (fdS (stP V (S 37) m hF hK hT) (vF V) (vW V) (vS' V)) T
    rw [hPe]; exact hT1
  · intro k s T hs hT1 ih
    have hk := hT1.2.2.2.2
    obtain ⟨w0, w6⟩ := hW s hs
    simp (disch := omega) only [LX1_explore_28, KX1_explore_28, (goCK hk).1, eS, nI_leE, nI_ltE, nI_eqE, nI_m1, c0a, c0b, c0c, c0d, c0e, c1a, c1b, c1c, c1d, c1e, c2a, c2b, c2c, c2d, c2e, c3a, c3b, c3c, c3d, c3e, c4a, c4b, c4c, c4d, c4e, c5a, c5b, c5c, c5d, c5e, c6a, c6b, c6c, c6d, c6e, c7a, c7b, c7c, c7d, c7e, c8a, c8b, c8c, c8d, c8e, c9a, c9b, c9c, c9d, c9e, c10a, c10b, c10c, c10d, c10e, c12a, c12b, c12c, c12d, c12e, c14a, c14b, c14c, c14d, c14e, c16a, c16b, c16c, c16d, c16e, c20a, c20b, c20c, c20d, c20e, c30a, c30b, c30c, c30d, c30e, c32a, c32b, c32c, c32d, c32e, c36a, c36b, c36c, c36d, c36e, c40a, c40b, c40c, c40d, c40e, c41a, c41b, c41c, c41d, c41e, c42a, c42b, c42c, c42d, c42e, c43a, c43b, c43c, c43d, c43e, c45a, c45b, c45c, c45d, c45e, c47a, c47b, c47c, c47d, c47e, c48a, c48b, c48c, c48d, c48e, c57a, c57b, c57c, c57d, c57e, c59a, c59b, c59c, c59d, c59e, c60a, c60b, c60c, c60d, c60e, c61a, c61b, c61c, c61d, c61e, c62a, c62b, c62c, c62d, c62e, c64a, c64b, c64c, c64d, c64e, c96a, c96b, c96c, c96d, c96e, c97a, c97b, c97c, c97d, c97e, c98a, c98b, c98c, c98d, c98e, c99a, c99b, c99c, c99d, c99e, c100a, c100b, c100c, c100d, c100e, c122a, c122b, c122c, c122d, c122e, c700a, c700b, c700c, c700d, c700e, c4240a, c4240b, c4240c, c4240d, c4240e, c9999a, c9999b, c9999c, c9999d, c9999e, c100000a, c100000b, c100000c, c100000d, c100000e, c1000000a, c1000000b, c1000000c, c1000000d, c1000000e, if_F]
    refine ok_for (fun k2 i T => LX1_explore_39 (LX1_explore_28 k) k2 v 36 (nI s) (nI i) T) _ (fun i T => Ex V S (fdS P (vF V) (vW V) s ++ fdI P (vF V) s i) T) (vW V s) ?_ ?_ FU 0 T (by omega) (by unfold FU; omega) (by show Ex V S (_ ++ []) T; rw [List.append_nil]; exact hT1)
    · intro k2 U hU
      have hkU := hU.2.2.2.2
      simp (disch := omega) only [LX1_explore_39, KX1_explore_39, srv8, hv, rdv6, (goCK hkU).2.1, eW s hs, nI_leE, nI_ltE, nI_eqE, nI_m1, c0a, c0b, c0c, c0d, c0e, c1a, c1b, c1c, c1d, c1e, c2a, c2b, c2c, c2d, c2e, c3a, c3b, c3c, c3d, c3e, c4a, c4b, c4c, c4d, c4e, c5a, c5b, c5c, c5d, c5e, c6a, c6b, c6c, c6d, c6e, c7a, c7b, c7c, c7d, c7e, c8a, c8b, c8c, c8d, c8e, c9a, c9b, c9c, c9d, c9e, c10a, c10b, c10c, c10d, c10e, c12a, c12b, c12c, c12d, c12e, c14a, c14b, c14c, c14d, c14e, c16a, c16b, c16c, c16d, c16e, c20a, c20b, c20c, c20d, c20e, c30a, c30b, c30c, c30d, c30e, c32a, c32b, c32c, c32d, c32e, c36a, c36b, c36c, c36d, c36e, c40a, c40b, c40c, c40d, c40e, c41a, c41b, c41c, c41d, c41e, c42a, c42b, c42c, c42d, c42e, c43a, c43b, c43c, c43d, c43e, c45a, c45b, c45c, c45d, c45e, c47a, c47b, c47c, c47d, c47e, c48a, c48b, c48c, c48d, c48e, c57a, c57b, c57c, c57d, c57e, c59a, c59b, c59c, c59d, c59e, c60a, c60b, c60c, c60d, c60e, c61a, c61b, c61c, c61d, c61e, c62a, c62b, c62c, c62d, c62e, c64a, c64b, c64c, c64d, c64e, c96a, c96b, c96c, c96d, c96e, c97a, c97b, c97c, c97d, c97e, c98a, c98b, c98c, c98d, c98e, c99a, c99b, c99c, c99d, c99e, c100a, c100b, c100c, c100d, c100e, c122a, c122b, c122c, c122d, c122e, c700a, c700b, c700c, c700d, c700e, c4240a, c4240b, c4240c, c4240d, c4240e, c9999a, c9999b, c9999c, c9999d, c9999e, c100000a, c100000b, c100000c, c100000d, c100000e, c1000000a, c1000000b, c1000000c, c1000000d, c1000000e, if_T, vl_s, ra1]
      exact ih U hU
    · intro k2 i U hi hU ih2
      have hkU := hU.2.2.2.2
      have hi6 : i < 6 := by omega
      simp (disch := omega) only [LX1_explore_39, KX1_explore_39, srv8, hv, rdv6, (goCK hkU).2.1, eW s hs, nI_leE, nI_ltE, nI_eqE, nI_m1, c0a, c0b, c0c, c0d, c0e, c1a, c1b, c1c, c1d, c1e, c2a, c2b, c2c, c2d, c2e, c3a, c3b, c3c, c3d, c3e, c4a, c4b, c4c, c4d, c4e, c5a, c5b, c5c, c5d, c5e, c6a, c6b, c6c, c6d, c6e, c7a, c7b, c7c, c7d, c7e, c8a, c8b, c8c, c8d, c8e, c9a, c9b, c9c, c9d, c9e, c10a, c10b, c10c, c10d, c10e, c12a, c12b, c12c, c12d, c12e, c14a, c14b, c14c, c14d, c14e, c16a, c16b, c16c, c16d, c16e, c20a, c20b, c20c, c20d, c20e, c30a, c30b, c30c, c30d, c30e, c32a, c32b, c32c, c32d, c32e, c36a, c36b, c36c, c36d, c36e, c40a, c40b, c40c, c40d, c40e, c41a, c41b, c41c, c41d, c41e, c42a, c42b, c42c, c42d, c42e, c43a, c43b, c43c, c43d, c43e, c45a, c45b, c45c, c45d, c45e, c47a, c47b, c47c, c47d, c47e, c48a, c48b, c48c, c48d, c48e, c57a, c57b, c57c, c57d, c57e, c59a, c59b, c59c, c59d, c59e, c60a, c60b, c60c, c60d, c60e, c61a, c61b, c61c, c61d, c61e, c62a, c62b, c62c, c62d, c62e, c64a, c64b, c64c, c64d, c64e, c96a, c96b, c96c, c96d, c96e, c97a, c97b, c97c, c97d, c97e, c98a, c98b, c98c, c98d, c98e, c99a, c99b, c99c, c99d, c99e, c100a, c100b, c100c, c100d, c100e, c122a, c122b, c122c, c122d, c122e, c700a, c700b, c700c, c700d, c700e, c4240a, c4240b, c4240c, c4240d, c4240e, c9999a, c9999b, c9999c, c9999d, c9999e, c100000a, c100000b, c100000c, c100000d, c100000e, c1000000a, c1000000b, c1000000c, c1000000d, c1000000e, if_F, vl_s, rm6, la62, nI_add]
      refine ok_for (fun k3 f X => LX1_explore_65 (LX1_explore_28 k) (LX1_explore_39 (LX1_explore_28 k) k2) k3 v 36 (nI s) (nI i) (nI (62 + s * 6 + i)) (nI f) X) _ (fun f X => Ex V S (fdS P (vF V) (vW V) s ++ fdI P (vF V) s i ++ fdF P (s * 100 + i * 10) f) X) (vF V) ?_ ?_ FU 0 U (by omega) (by unfold FU; omega) (by show Ex V S (_ ++ []) U; rw [List.append_nil]; exact hU)
      · intro k3 X hX
        simp (disch := omega) only [LX1_explore_65, KX1_explore_65, hX.2.2.1, nI_leE, nI_ltE, nI_eqE, nI_m1, c0a, c0b, c0c, c0d, c0e, c1a, c1b, c1c, c1d, c1e, c2a, c2b, c2c, c2d, c2e, c3a, c3b, c3c, c3d, c3e, c4a, c4b, c4c, c4d, c4e, c5a, c5b, c5c, c5d, c5e, c6a, c6b, c6c, c6d, c6e, c7a, c7b, c7c, c7d, c7e, c8a, c8b, c8c, c8d, c8e, c9a, c9b, c9c, c9d, c9e, c10a, c10b, c10c, c10d, c10e, c12a, c12b, c12c, c12d, c12e, c14a, c14b, c14c, c14d, c14e, c16a, c16b, c16c, c16d, c16e, c20a, c20b, c20c, c20d, c20e, c30a, c30b, c30c, c30d, c30e, c32a, c32b, c32c, c32d, c32e, c36a, c36b, c36c, c36d, c36e, c40a, c40b, c40c, c40d, c40e, c41a, c41b, c41c, c41d, c41e, c42a, c42b, c42c, c42d, c42e, c43a, c43b, c43c, c43d, c43e, c45a, c45b, c45c, c45d, c45e, c47a, c47b, c47c, c47d, c47e, c48a, c48b, c48c, c48d, c48e, c57a, c57b, c57c, c57d, c57e, c59a, c59b, c59c, c59d, c59e, c60a, c60b, c60c, c60d, c60e, c61a, c61b, c61c, c61d, c61e, c62a, c62b, c62c, c62d, c62e, c64a, c64b, c64c, c64d, c64e, c96a, c96b, c96c, c96d, c96e, c97a, c97b, c97c, c97d, c97e, c98a, c98b, c98c, c98d, c98e, c99a, c99b, c99c, c99d, c99e, c100a, c100b, c100c, c100d, c100e, c122a, c122b, c122c, c122d, c122e, c700a, c700b, c700c, c700d, c700e, c4240a, c4240b, c4240c, c4240d, c4240e, c9999a, c9999b, c9999c, c9999d, c9999e, c100000a, c100000b, c100000c, c100000d, c100000e, c1000000a, c1000000b, c1000000c, c1000000d, c1000000e, if_T, vl_s, ra1]
        refine ih2 X ?_
        show Ex V S (_ ++ (_ ++ _)) X
        rw [← List.append_assoc]; exact hX
      · intro k3 f X hf hX ih3
        have hkX := hX.2.2.2.2
        obtain ⟨d1, d2, d3⟩ := code_d (s := s) (f := f) hi6 (by omega : f < 8)
        have eP : P (s * 100 + i * 10 + f) = (decide (¬ nI f = S 37 (62 + s * 6 + i)) && asH V (upd (S 37) (62 + s * 6 + i) (nI f)) m hF hK hT) := by
          rw [← hPe]; unfold stP rwC; rw [d1, d2, d3]
        have erw : rwC (S 37) (s * 100 + i * 10 + f) = upd (S 37) (62 + s * 6 + i) (nI f) := by unfold rwC; rw [d1, d2, d3]
        have skip : ∀ Y, P (s * 100 + i * 10 + f) = false → Ex V S (fdS P (vF V) (vW V) s ++ fdI P (vF V) s i ++ fdF P (s * 100 + i * 10) f) Y → ok (LX1_explore_65 (LX1_explore_28 k) (LX1_explore_39 (LX1_explore_28 k) k2) k3 v 36 (nI s) (nI i) (nI (62 + s * 6 + i)) (nI (f + 1)) Y) (fun T => Ex V S (fnd V (S 37) m hF hK hT) T) := by
          intro Y hPf hY
          refine ih3 Y ?_
          show Ex V S (_ ++ (_ ++ (if P (s * 100 + i * 10 + f) then _ else _))) Y
          rw [hPf, if_neg (by decide), List.append_nil]; exact hY
        simp (disch := omega) only [LX1_explore_65, KX1_explore_65, hX.2.2.1, nI_leE, nI_ltE, nI_eqE, nI_m1, c0a, c0b, c0c, c0d, c0e, c1a, c1b, c1c, c1d, c1e, c2a, c2b, c2c, c2d, c2e, c3a, c3b, c3c, c3d, c3e, c4a, c4b, c4c, c4d, c4e, c5a, c5b, c5c, c5d, c5e, c6a, c6b, c6c, c6d, c6e, c7a, c7b, c7c, c7d, c7e, c8a, c8b, c8c, c8d, c8e, c9a, c9b, c9c, c9d, c9e, c10a, c10b, c10c, c10d, c10e, c12a, c12b, c12c, c12d, c12e, c14a, c14b, c14c, c14d, c14e, c16a, c16b, c16c, c16d, c16e, c20a, c20b, c20c, c20d, c20e, c30a, c30b, c30c, c30d, c30e, c32a, c32b, c32c, c32d, c32e, c36a, c36b, c36c, c36d, c36e, c40a, c40b, c40c, c40d, c40e, c41a, c41b, c41c, c41d, c41e, c42a, c42b, c42c, c42d, c42e, c43a, c43b, c43c, c43d, c43e, c45a, c45b, c45c, c45d, c45e, c47a, c47b, c47c, c47d, c47e, c48a, c48b, c48c, c48d, c48e, c57a, c57b, c57c, c57d, c57e, c59a, c59b, c59c, c59d, c59e, c60a, c60b, c60c, c60d, c60e, c61a, c61b, c61c, c61d, c61e, c62a, c62b, c62c, c62d, c62e, c64a, c64b, c64c, c64d, c64e, c96a, c96b, c96c, c96d, c96e, c97a, c97b, c97c, c97d, c97e, c98a, c98b, c98c, c98d, c98e, c99a, c99b, c99c, c99d, c99e, c100a, c100b, c100c, c100d, c100e, c122a, c122b, c122c, c122d, c122e, c700a, c700b, c700c, c700d, c700e, c4240a, c4240b, c4240c, c4240d, c4240e, c9999a, c9999b, c9999c, c9999d, c9999e, c100000a, c100000b, c100000c, c100000d, c100000e, c1000000a, c1000000b, c1000000c, c1000000d, c1000000e, if_F, show sr 36 0 = 37 from rfl, rd37, (goCK hkX).2.2, BX1_explore_116, vl_s, ra1, rm100, rm10, nI_add]
        by_cases c : nI f = S 37 (62 + s * 6 + i)
        · rw [if_pos c]
          exact skip X (by rw [eP]; simp [c]) hX
        · rw [if_neg c]
          have rX : Rl V v d X := hR.c hkX
          have hcX : HdC m hF hK hT X := by
            unfold HdC at hc ⊢
            rw [hkX 36 (by decide) (by decide) (by decide) (by decide) (by decide), hkX 79 (by decide) (by decide) (by decide) (by decide) (by decide), hkX 80 (by decide) (by decide) (by decide) (by decide) (by decide), hkX 81 (by decide) (by decide) (by decide) (by decide) (by decide)]
            exact hc
          have ro := ROk_w hV hR.rok (s := s) (i := i) (f := f) (by omega) hi6 hf
          obtain ⟨⟨y, Y⟩, e2, q1, q2, q3⟩ := C_holds rX hh hcX hX.2.2.1 (a3 := nI (62 + s * 6 + i)) (a4 := nI f) (r := upd (S 37) (62 + s * 6 + i) (nI f)) (Or.inr ⟨62 + s * 6 + i, f, by omega, by omega, rfl, rfl, by rw [(goCK hkX).2.2]⟩) ro
          have q2' : oFr X Y := q2
          have exY : Ex V S (fdS P (vF V) (vW V) s ++ fdI P (vF V) s i ++ fdF P (s * 100 + i * 10) f) Y := by
            obtain ⟨x1, x2, x3, x4, x5⟩ := hX
            have e137 := q2' 137 (by decide) (by decide) (by decide) (by decide) (by decide) (by decide)
            have e138 := q2' 138 (by decide) (by decide) (by decide) (by decide) (by decide) (by decide)
            exact ⟨by rw [e137]; exact x1, by rw [e137]; exact x2, by rw [e137]; exact x3, by rw [e138]; exact x4, x5.tr q2'.k⟩
          rw [e2, bd_s, show y = _ from q1]
          cases hb : asH V (upd (S 37) (62 + s * 6 + i) (nI f)) m hF hK hT with
          | false =>
            rw [if_pos (show b2i false = 0 from rfl)]
            exact skip Y (by rw [eP, hb]; simp) exY
          | true =>
            rw [if_neg (show ¬ b2i true = 0 by decide)]
            have ls := q3 hb
            obtain ⟨y1, y2, y3, y4, y5⟩ := exY
            have len1 := fdS_len (P := P) (w := vW V) hF8 s (fun q hq => (hW q (by omega)).2)
            have len2 := fdI_len (P := P) (F := vF V) (s := s) i
            have len3 := fdF_len (P := P) (c0 := s * 100 + i * 10) f
            have len4 : i * vF V ≤ 5 * 8 := Nat.mul_le_mul (by omega) hF8
            have lenA : (fdS P (vF V) (vW V) s ++ fdI P (vF V) s i ++ fdF P (s * 100 + i * 10) f).length < 288 := by
              rw [List.length_append, List.length_append]; omega
            obtain ⟨Z, e3, z1, z2, z3, z4, z5⟩ := C_add (S := Y) (F := vF V) (c := s * 100 + i * 10 + f) hF8 y3 y1 (by omega)
            rw [e3, bv_s]
            have hPt : P (s * 100 + i * 10 + f) = true := by rw [eP, hb]; simp [c]
            refine ih3 Z ?_
            show Ex V S (_ ++ (_ ++ (if P (s * 100 + i * 10 + f) then _ else _))) Z
            rw [hPt, if_pos rfl, ← List.append_assoc]
            generalize hLe : fdS P (vF V) (vW V) s ++ fdI P (vF V) s i ++ fdF P (s * 100 + i * 10) f = L at *
            refine ⟨by rw [z1, List.length_append]; rfl, ?_, z3, fun g hg => ?_, fun a h1 h2 h3 h4 h5 => ?_⟩
            · rw [z2, hdL_app, y2]
            · obtain ⟨k8, ke, -⟩ := lsX_is (V := V) (r := upd (S 37) (62 + s * 6 + i) (nI f)) (f := g)
              rw [z4 g hg, y4 g hg, show Y 139 g = _ from ls g hg, ke, sh_N _ (by omega), or_N, orL9_app, erw]
            · rw [z5 a (by omega) (by omega)]; exact y5 a h1 h2 h3 h4 h5
