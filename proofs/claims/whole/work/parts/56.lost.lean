/-! what others know -/
def orL (r : Rw) (s : Nat) : Nat → Int32
  | 0 => 0
  | q + 1 => orL r s q ||| (if q = s then 0 else r (2 + q))
theorem orL_congr {r r' : Rw} {s : Nat} : ∀ n, (∀ q, q < n → r (2 + q) = r' (2 + q)) → orL r s n = orL r' s n := by
  intro n
  induction n with
  | zero => intro _; rfl
  | succ n ih => intro h; show orL r s n ||| _ = orL r' s n ||| _; rw [ih (fun q hq => h q (by omega)), h n (by omega)]
theorem or_ac (a b c : Int32) : (a ||| b) ||| c = (a ||| c) ||| b := by rw [Int32.or_assoc, Int32.or_comm b c, Int32.or_assoc]
theorem orL_has {r : Rw} {s q : Nat} {x : Int32} (hq : q ≠ s) (hx : r (2 + q) ||| x = r (2 + q)) : ∀ n, q < n → orL r s n ||| x = orL r s n := by
  intro n
  induction n with
  | zero => intro h; omega
  | succ n ih =>
    intro h
    show (orL r s n ||| _) ||| x = orL r s n ||| _
    by_cases c : q = n
    · subst c
      rw [if_neg hq, Int32.or_assoc, hx]
    · rw [or_ac, ih (by omega)]
theorem orL_spr {r r' : Rw} {s : Nat} {x : Int32} : ∀ n, (∀ q, q < n → r' (2 + q) = r (2 + q) ∨ r' (2 + q) = r (2 + q) ||| x) → orL r' s n ||| x = orL r s n ||| x := by
  intro n
  induction n with
  | zero => intro _; rfl
  | succ n ih =>
    intro h
    show (orL r' s n ||| _) ||| x = (orL r s n ||| _) ||| x
    rw [or_ac (orL r' s n) _ x, ih (fun q hq => h q (by omega)), or_ac (orL r s n) _ x]
    by_cases c : n = s
    · rw [if_pos c, if_pos c]
    · rw [if_neg c, if_neg c]
      rcases h n (by omega) with e | e
      · rw [e]
      · rw [e, ← Int32.or_assoc, or_ac _ _ x, Int32.or_assoc _ x x, Int32.or_self]
theorem known_or : ∀ k, k < 256 → ∀ t, t < 8 → bit (nI k) (nI t) = true → nI k ||| pw (nI t) = nI k := by decide +kernel
theorem orL_snT {V : Vy} {hm : Nat} {r : Rw} (hr : ROk V hm r) (hV : VOk V) {s q t : Nat} (hq : q < vS' V) (ht : t < vF V) (hne : q ≠ s) (hb : bit (r (2 + q)) (nI t) = true) : orL (snT V r q t) s (vS' V) = orL r s (vS' V) := by
  have hS6 := hV.2.1
  have hF8 := hV.1
  have ho := own_lt hr hV ht
  have key : ∀ p, p < vS' V → snT V r q t (2 + p) = r (2 + p) ∨ snT V r q t (2 + p) = r (2 + p) ||| pw (nI t) := by
    intro p hp
    have base : ∀ r' : Rw, r' (2 + p) = r (2 + p) → spr V r' (plN V r q) (nI q) (nI t) (2 + p) = r (2 + p) ∨ spr V r' (plN V r q) (nI q) (nI t) (2 + p) = r (2 + p) ||| pw (nI t) := by
      intro r' e
      unfold spr
      split
      · exact Or.inr (by rw [e])
      · exact Or.inl e
    unfold snT
    apply base
    split
    · exact pay_off (by omega) (by omega) (by omega)
    · split
      · rfl
      · split
        · rfl
        · exact upd_ne (by omega)
  obtain ⟨k, hk, ek⟩ := hr.2.1 q hq
  have hk8 : k < 256 := Nat.lt_of_lt_of_le hk (Nat.pow_le_pow_right (by decide) hF8 : 2 ^ vF V ≤ 2 ^ 8)
  have hx : r (2 + q) ||| pw (nI t) = r (2 + q) := by rw [ek] at hb ⊢; exact known_or k hk8 t (by omega) hb
  have hx' : snT V r q t (2 + q) ||| pw (nI t) = snT V r q t (2 + q) := by
    rcases key q hq with e | e
    · rw [e, hx]
    · rw [e, hx, hx]
  rw [← orL_has hne hx' (vS' V) hq, orL_spr (vS' V) key, orL_has hne hx (vS' V) hq]
theorem orL_snZ {V : Vy} {hm : Nat} {r : Rw} (hr : ROk V hm r) (hV : VOk V) (hm9 : hm ≤ 20000) {s q : Nat} (hs : s < vS' V) (hq : q < vS' V) : orL (snZ V (nI s) r q) s (vS' V) = orL r s (vS' V) := by
  have hS6 := hV.2.1
  have hF8 := hV.1
  unfold snZ
  split
  · rfl
  · rename_i c
    have hne : q ≠ s := fun e => c (by rw [e])
    unfold sn
    rcases tuI_ok hr hV hm9 hq with h1 | ⟨t, ht, e, e2, hb⟩
    · rw [if_pos h1]
    · rw [e2, if_neg (by rw [e]; exact nI_ne_m1 (by omega))]
      exact orL_snT hr hV hq ht hne hb
theorem orL_snsZ {V : Vy} {hm : Nat} {r : Rw} (hr : ROk V hm r) (hV : VOk V) (hm9 : hm ≤ 20000) {s : Nat} (hs : s < vS' V) : ∀ q, q ≤ vS' V → orL (snsZ V (nI s) r q) s (vS' V) = orL r s (vS' V) := by
  intro q
  induction q with
  | zero => intro _; rfl
  | succ q ih =>
    intro h
    show orL (snZ V (nI s) (snsZ V (nI s) r q) q) s (vS' V) = _
    rw [orL_snZ (snsZ_ok hr hV hm9 q (by omega)).1 hV hm9 hs (by omega), ih (by omega)]
theorem orL_hrsZ {V : Vy} {hm : Nat} {r : Rw} (hr : ROk V hm r) (hV : VOk V) {s : Nat} (hs : s < vS' V) : ∀ n, hm + n ≤ 20000 → orL (hrsZ V (nI s) r n) s (vS' V) = orL r s (vS' V) := by
  intro n
  induction n with
  | zero => intro _; rfl
  | succ n ih =>
    intro h
    have ro := hrsZ_ok (z := nI s) hr hV n (by omega)
    show orL (hr1Z V (nI s) (hrsZ V (nI s) r n)) s (vS' V) = _
    unfold hr1Z
    rw [orL_congr (r' := snsZ V (nI s) (hrsZ V (nI s) r n) (vS' V)) _ (fun q _ => upd_ne (by omega)), orL_snsZ ro hV (by omega) hs _ (Nat.le_refl _), ih (by omega)]
theorem C_kbo {V : Vy} {v : Nat} {S : St} (hC : VC V v S) (h0 : S 130 0 = nI v) {s : Nat} (hs : s < vS' V) : fX0_knownByOthers (nI s) S = some (orL (S 131) s (vS' V), S) := by
  have hV := hC.1
  have hS6 := hV.2.1
  have hv := hC.2.1
  have hS := hC.2.2.2.1
  have : ok (fX0_knownByOthers (nI s) S) (fun q => q = (orL (S 131) s (vS' V), S)) := by
    unfold fX0_knownByOthers
    refine ok_for (σ := Int32) (fun n i x => LX0_knownByOthers_4 n (nI s) x (nI i) S) _ (fun i x => x = orL (S 131) s i) (vS' V) ?_ ?_ FU 0 0 (by omega) (by unfold FU; omega) rfl
    · intro n x hI
      subst hI
      simp (disch := omega) only [LX0_knownByOthers_4, KX0_knownByOthers_4, gm_v h0 hv, hS, nI_leE, nI_ltE, nI_eqE, nI_m1, c0a, c0b, c0c, c0d, c0e, c1a, c1b, c1c, c1d, c1e, c2a, c2b, c2c, c2d, c2e, c3a, c3b, c3c, c3d, c3e, c4a, c4b, c4c, c4d, c4e, c5a, c5b, c5c, c5d, c5e, c6a, c6b, c6c, c6d, c6e, c7a, c7b, c7c, c7d, c7e, c8a, c8b, c8c, c8d, c8e, c9a, c9b, c9c, c9d, c9e, c10a, c10b, c10c, c10d, c10e, c12a, c12b, c12c, c12d, c12e, c14a, c14b, c14c, c14d, c14e, c16a, c16b, c16c, c16d, c16e, c20a, c20b, c20c, c20d, c20e, c30a, c30b, c30c, c30d, c30e, c32a, c32b, c32c, c32d, c32e, c36a, c36b, c36c, c36d, c36e, c40a, c40b, c40c, c40d, c40e, c41a, c41b, c41c, c41d, c41e, c42a, c42b, c42c, c42d, c42e, c43a, c43b, c43c, c43d, c43e, c45a, c45b, c45c, c45d, c45e, c47a, c47b, c47c, c47d, c47e, c48a, c48b, c48c, c48d, c48e, c57a, c57b, c57c, c57d, c57e, c59a, c59b, c59c, c59d, c59e, c60a, c60b, c60c, c60d, c60e, c61a, c61b, c61c, c61d, c61e, c62a, c62b, c62c, c62d, c62e, c64a, c64b, c64c, c64d, c64e, c96a, c96b, c96c, c96d, c96e, c97a, c97b, c97c, c97d, c97e, c98a, c98b, c98c, c98d, c98e, c99a, c99b, c99c, c99d, c99e, c100a, c100b, c100c, c100d, c100e, c122a, c122b, c122c, c122d, c122e, c700a, c700b, c700c, c700d, c700e, c4240a, c4240b, c4240c, c4240d, c4240e, c9999a, c9999b, c9999c, c9999d, c9999e, c100000a, c100000b, c100000c, c100000d, c100000e, c1000000a, c1000000b, c1000000c, c1000000d, c1000000e, if_T, ri_s]
      exact ok_some rfl
    · intro n i x hi hI ih
      subst hI
      simp (disch := omega) only [LX0_knownByOthers_4, KX0_knownByOthers_4, gm_v h0 hv, hS, nI_leE, nI_ltE, nI_eqE, nI_m1, c0a, c0b, c0c, c0d, c0e, c1a, c1b, c1c, c1d, c1e, c2a, c2b, c2c, c2d, c2e, c3a, c3b, c3c, c3d, c3e, c4a, c4b, c4c, c4d, c4e, c5a, c5b, c5c, c5d, c5e, c6a, c6b, c6c, c6d, c6e, c7a, c7b, c7c, c7d, c7e, c8a, c8b, c8c, c8d, c8e, c9a, c9b, c9c, c9d, c9e, c10a, c10b, c10c, c10d, c10e, c12a, c12b, c12c, c12d, c12e, c14a, c14b, c14c, c14d, c14e, c16a, c16b, c16c, c16d, c16e, c20a, c20b, c20c, c20d, c20e, c30a, c30b, c30c, c30d, c30e, c32a, c32b, c32c, c32d, c32e, c36a, c36b, c36c, c36d, c36e, c40a, c40b, c40c, c40d, c40e, c41a, c41b, c41c, c41d, c41e, c42a, c42b, c42c, c42d, c42e, c43a, c43b, c43c, c43d, c43e, c45a, c45b, c45c, c45d, c45e, c47a, c47b, c47c, c47d, c47e, c48a, c48b, c48c, c48d, c48e, c57a, c57b, c57c, c57d, c57e, c59a, c59b, c59c, c59d, c59e, c60a, c60b, c60c, c60d, c60e, c61a, c61b, c61c, c61d, c61e, c62a, c62b, c62c, c62d, c62e, c64a, c64b, c64c, c64d, c64e, c96a, c96b, c96c, c96d, c96e, c97a, c97b, c97c, c97d, c97e, c98a, c98b, c98c, c98d, c98e, c99a, c99b, c99c, c99d, c99e, c100a, c100b, c100c, c100d, c100e, c122a, c122b, c122c, c122d, c122e, c700a, c700b, c700c, c700d, c700e, c4240a, c4240b, c4240c, c4240d, c4240e, c9999a, c9999b, c9999c, c9999d, c9999e, c100000a, c100000b, c100000c, c100000d, c100000e, c1000000a, c1000000b, c1000000c, c1000000d, c1000000e, if_F, bd_s, bv_s, bt_s, bt_x, vl_s, pf_s, ri_s, rz_0, rz_1, tri_s, trz_0, trz_1, trx_s, pz_0, pz_1, nI_add, pk_mul, up_at, la2, la5, la6, la8, la14, la62, la64, la98, la700, ra1, ra2, ra6, ra8, ra12, ra20, ra36, ra48, lm6, lm8, lm10, lm100, lm106, rm6, rm8, rm10, rm100, rm106, rd131, rd132, rd133, rd134, rd135, rd136, rd131_0, rd131_1, rd131_8, BX0_knownByOthers_31]
      by_cases c : i = s
      · rw [if_pos c]
        refine ih _ ?_
        show _ = orL (S 131) s i ||| (if i = s then 0 else S 131 (2 + i))
        rw [if_pos c, or0]
      · rw [if_neg c]
        refine ih _ ?_
        show _ = orL (S 131) s i ||| (if i = s then 0 else S 131 (2 + i))
        rw [if_neg c]
  obtain ⟨b, e, q⟩ := this
  rw [e, q]
theorem M_kbo {V : Vy} {S T : St} (hM : VM V T) (hm : ROk V 10000 (mr T)) (hF : mFr (row S 169 (pkd S 169 0)) T) {z : Int32} (hz : T 142 41 = z) {s : Nat} (hs : s < vS' V) : ok (fX10_knownByOthers (nI s) T) (fun q => q.1 = orL (hrsZ V z (mr T) 30) s (vS' V) ∧ mK S q.2 ∧ (∀ a, a ≠ 142 → 168 < a → q.2 a = T a) ∧ ∀ j, j ≠ 34 → j ≠ 35 → q.2 142 j = T 142 j) := by
  have hV := hM.1
  have hS6 := hV.2.1
  obtain ⟨T2, e2, g1, g2⟩ := M_goZ (n := 30) hM hm (by decide) (by decide) hz
  have hS := (hM.fr g2).2.2.1
  unfold fX10_knownByOthers
  rw [show (30 : Int32) = nI 30 from rfl, e2, bv_s]
  refine ok_for (σ := Int32) (fun n i x => LX10_knownByOthers_10 n (nI s) x (nI i) T2) _ (fun i x => x = orL (mr T2) s i) (vS' V) ?_ ?_ FU 0 0 (by omega) (by unfold FU; omega) rfl
  · intro n x hI
    subst hI
    obtain ⟨T3, e3, c1, c2, c3⟩ := M_back (hF.tr g2)
    simp (disch := omega) only [LX10_knownByOthers_10, KX10_knownByOthers_10, rd145, rd146, rd147, rd148, rd149, rd150, rd151, rd152, rd153, rd154, rd155, rd156, rd157, rd158, rd159, rd160, rd161, rd162, rd163, rd164, rd165, rd166, rd167, rd168, rd169, rd170, rd171, rd172, rd173, rd174, rd175, rd176, rd177, rd178, rd179, rd180, rd181, rd182, rd183, rd184, rd185, rd145_0, rd145_2, rd145_3, rd145_4, rd145_5, rd145_6, rd145_7, rd156_0, rd156_1, rd166_0, rd178_0, hS, nI_leE, nI_ltE, nI_eqE, nI_m1, c0a, c0b, c0c, c0d, c0e, c1a, c1b, c1c, c1d, c1e, c2a, c2b, c2c, c2d, c2e, c3a, c3b, c3c, c3d, c3e, c4a, c4b, c4c, c4d, c4e, c5a, c5b, c5c, c5d, c5e, c6a, c6b, c6c, c6d, c6e, c7a, c7b, c7c, c7d, c7e, c8a, c8b, c8c, c8d, c8e, c9a, c9b, c9c, c9d, c9e, c10a, c10b, c10c, c10d, c10e, c12a, c12b, c12c, c12d, c12e, c14a, c14b, c14c, c14d, c14e, c16a, c16b, c16c, c16d, c16e, c20a, c20b, c20c, c20d, c20e, c30a, c30b, c30c, c30d, c30e, c32a, c32b, c32c, c32d, c32e, c36a, c36b, c36c, c36d, c36e, c40a, c40b, c40c, c40d, c40e, c41a, c41b, c41c, c41d, c41e, c42a, c42b, c42c, c42d, c42e, c43a, c43b, c43c, c43d, c43e, c45a, c45b, c45c, c45d, c45e, c47a, c47b, c47c, c47d, c47e, c48a, c48b, c48c, c48d, c48e, c57a, c57b, c57c, c57d, c57e, c59a, c59b, c59c, c59d, c59e, c60a, c60b, c60c, c60d, c60e, c61a, c61b, c61c, c61d, c61e, c62a, c62b, c62c, c62d, c62e, c64a, c64b, c64c, c64d, c64e, c96a, c96b, c96c, c96d, c96e, c97a, c97b, c97c, c97d, c97e, c98a, c98b, c98c, c98d, c98e, c99a, c99b, c99c, c99d, c99e, c100a, c100b, c100c, c100d, c100e, c122a, c122b, c122c, c122d, c122e, c700a, c700b, c700c, c700d, c700e, c4240a, c4240b, c4240c, c4240d, c4240e, c9999a, c9999b, c9999c, c9999d, c9999e, c100000a, c100000b, c100000c, c100000d, c100000e, c1000000a, c1000000b, c1000000c, c1000000d, c1000000e, if_T, e3, bd_s, bv_s, bt_s, bt_x, vl_s, pf_s, ri_s, rz_0, rz_1, tri_s, trz_0, trz_1, trx_s, pz_0, pz_1, nI_add, pk_mul, up_at, la2, la5, la6, la8, la14, la62, la64, la98, la700, ra1, ra2, ra6, ra8, ra12, ra20, ra36, ra48, lm6, lm8, lm10, lm100, lm106, rm6, rm8, rm10, rm100, rm106]
    exact ok_some ⟨by rw [g1], c1, fun a h1 h2 => (c2 a (by omega)).trans (g2.1 a (by omega)), fun j h1 h2 => (c3 j h1 h2).trans (g2.2 j h1 h2)⟩
  · intro n i x hi hI ih
    subst hI
    have e158 : T2 158 i = mr T2 (2 + i) := (mr_k (by omega)).symm
    simp (disch := omega) only [LX10_knownByOthers_10, KX10_knownByOthers_10, rd145, rd146, rd147, rd148, rd149, rd150, rd151, rd152, rd153, rd154, rd155, rd156, rd157, rd158, rd159, rd160, rd161, rd162, rd163, rd164, rd165, rd166, rd167, rd168, rd169, rd170, rd171, rd172, rd173, rd174, rd175, rd176, rd177, rd178, rd179, rd180, rd181, rd182, rd183, rd184, rd185, rd145_0, rd145_2, rd145_3, rd145_4, rd145_5, rd145_6, rd145_7, rd156_0, rd156_1, rd166_0, rd178_0, hS, nI_leE, nI_ltE, nI_eqE, nI_m1, c0a, c0b, c0c, c0d, c0e, c1a, c1b, c1c, c1d, c1e, c2a, c2b, c2c, c2d, c2e, c3a, c3b, c3c, c3d, c3e, c4a, c4b, c4c, c4d, c4e, c5a, c5b, c5c, c5d, c5e, c6a, c6b, c6c, c6d, c6e, c7a, c7b, c7c, c7d, c7e, c8a, c8b, c8c, c8d, c8e, c9a, c9b, c9c, c9d, c9e, c10a, c10b, c10c, c10d, c10e, c12a, c12b, c12c, c12d, c12e, c14a, c14b, c14c, c14d, c14e, c16a, c16b, c16c, c16d, c16e, c20a, c20b, c20c, c20d, c20e, c30a, c30b, c30c, c30d, c30e, c32a, c32b, c32c, c32d, c32e, c36a, c36b, c36c, c36d, c36e, c40a, c40b, c40c, c40d, c40e, c41a, c41b, c41c, c41d, c41e, c42a, c42b, c42c, c42d, c42e, c43a, c43b, c43c, c43d, c43e, c45a, c45b, c45c, c45d, c45e, c47a, c47b, c47c, c47d, c47e, c48a, c48b, c48c, c48d, c48e, c57a, c57b, c57c, c57d, c57e, c59a, c59b, c59c, c59d, c59e, c60a, c60b, c60c, c60d, c60e, c61a, c61b, c61c, c61d, c61e, c62a, c62b, c62c, c62d, c62e, c64a, c64b, c64c, c64d, c64e, c96a, c96b, c96c, c96d, c96e, c97a, c97b, c97c, c97d, c97e, c98a, c98b, c98c, c98d, c98e, c99a, c99b, c99c, c99d, c99e, c100a, c100b, c100c, c100d, c100e, c122a, c122b, c122c, c122d, c122e, c700a, c700b, c700c, c700d, c700e, c4240a, c4240b, c4240c, c4240d, c4240e, c9999a, c9999b, c9999c, c9999d, c9999e, c100000a, c100000b, c100000c, c100000d, c100000e, c1000000a, c1000000b, c1000000c, c1000000d, c1000000e, if_F, bd_s, bv_s, bt_s, bt_x, vl_s, pf_s, ri_s, rz_0, rz_1, tri_s, trz_0, trz_1, trx_s, pz_0, pz_1, nI_add, pk_mul, up_at, la2, la5, la6, la8, la14, la62, la64, la98, la700, ra1, ra2, ra6, ra8, ra12, ra20, ra36, ra48, lm6, lm8, lm10, lm100, lm106, rm6, rm8, rm10, rm100, rm106, BX10_knownByOthers_36, e158]
    by_cases c : i = s
    · rw [if_pos c]
      refine ih _ ?_
      show _ = orL (mr T2) s i ||| (if i = s then 0 else mr T2 (2 + i))
      rw [if_pos c]
    · rw [if_neg c]
      refine ih _ ?_
      show _ = orL (mr T2) s i ||| (if i = s then 0 else mr T2 (2 + i))
      rw [if_neg c]
theorem A_lost {nX : Int32} (a1 : Int32) : Agr nX (fX9_lost a1) (fX10_lost a1) := by
  refine look (fun S V v d hR => ?_)
  have hV := hR.vk
  have hS6 := hV.2.1
  rcases arg a1 (n := vS' V) (by omega) with ⟨s, hs, rfl⟩ | h1
  · refine ⟨.inl (orL (hrs V (S 37) 30) s (vS' V) &&& (orL (S 37) s (vS' V) ^^^ (-1))), ?_, fun T hT => ?_⟩
    · obtain ⟨S1, e1, b1, b2, b3, b4, b5⟩ := C_begin (a2 := 37) hR.C rfl (by decide) hR.rok (by decide)
      obtain ⟨S2, e2, g1, g2, g3, g4, g5, g6⟩ := C_go (n := 30) b2.1 b2.2.1 b2.2.2.1 (by decide) (by decide)
      unfold fX9_lost
      rw [C_nS_t hR hs, bt_s, gm_v hR.2.1 hR.hv, e1, bv_s, C_kbo b2.1 b2.2.1 hs, bd_s, show (30 : Int32) = nI 30 from rfl, e2, bv_s, C_kbo (b2.1.fr g6) (by rw [g5]; exact b2.2.1) hs, bd_s]
      refine ok_some ⟨?_, cFr.k (fun a h1 h2 h3 h4 h5 => (g6 a h1 h2 h3 h4 h5).trans (b5 a h1 h2 h3 h4 h5))⟩
      show Sum.inl _ = Sum.inl _
      rw [g1, orL_congr (r := S1 131) (r' := S 37) _ (fun q hq => b1 _ (by omega)), orL_congr (r := hrs V (S1 131) 30) (r' := hrs V (S 37) 30) _ (fun q hq => ag_hrs hV b1 b2.2.2.1 30 (by decide) _ (by omega))]
    · have hT' := hR.c hT
      have hM0 : VM V (up T 142 3 0) := hT'.M.go (fun a ha => up_ne (by omega))
      obtain ⟨T1, e1, e1', m1, m2, m3, m4, m5⟩ := M_lay hT'
      obtain ⟨⟨x4, T2⟩, e2, p1, p2, p3, p4⟩ := M_kbo (S := up T 142 3 0) m1 m3 (by rw [← e1']; exact mFr.rf) m4 hs
      have p2' : mK (up T 142 3 0) T2 := p2
      have p3' : ∀ a, a ≠ 142 → 168 < a → T2 a = T1 a := p3
      have p4' : ∀ j, j ≠ 34 → j ≠ 35 → T2 142 j = T1 142 j := p4
      generalize hT3 : up T2 142 41 (nI s) = T3
      have mm : mr T3 = mr T2 := by rw [← hT3, mr_up (by omega) (by omega)]
      have agm : ag (mr T3) (mr T1) := by rw [mm, m2, ← mr_up (S := T) (a := 142) (i := 3) (x := 0) (by omega) (by omega)]; exact p2'.1
      have hM3 : VM V T3 := hM0.go (fun a ha => by rw [← hT3, up_ne (by omega)]; exact p2'.2.1 a (by omega))
      obtain ⟨⟨x5, T4⟩, e4, r1, r2, r3, r4⟩ := M_kbo (S := up T2 142 41 (nI s)) (T := T3) (z := nI s) (s := s) hM3 (ag_ROk hV agm.sm m3) (by
        rw [hT3]
        refine ⟨fun a ha => ?_, fun j h1 h2 => by rw [row_ne (by decide)]⟩
        by_cases c : a = 169
        · subst c
          rw [row_at, ← hT3, up_ne (by decide), p3' 169 (by decide) (by decide), e1', row_at]
          funext i
          unfold pkd
          by_cases ci : 0 ≤ i ∧ i < 0 + 106
          · rw [if_pos ci, if_pos ci]
            have := p2'.1 (i - 0) (by omega)
            rw [hT3, mm]
            exact this.symm
          · have e9 : T2 169 i = up T 142 3 0 169 i := by
              rw [p3' 169 (by decide) (by decide), e1', row_at]
              unfold pkd
              rw [if_neg ci]
            rw [if_neg ci, if_neg ci, up_ne (S := T2) (show 169 ≠ 142 by decide), e9]
        · rw [row_ne c]) (by rw [← hT3, up_at]) hs
      have r2' : mK (up T2 142 41 (nI s)) T4 := r2
      have r4' : ∀ j, j ≠ 34 → j ≠ 35 → T4 142 j = T3 142 j := r4
      unfold fX10_lost
      rw [pf_s, M_isS_t hM0 hs, bd_s, if_neg (by decide), e1, bv_s, e2, bd_s, pf_s, hT3, e4, bd_s, pf_s]
      refine ok_some ⟨?_, ?_, ?_⟩
      · refine mK0.tr (p2'.tr ⟨?_, fun a ha => ?_, fun j hj => ?_⟩)
        · rw [mr_up (by omega) (by omega)]
          exact r2'.1.tr (by rw [hT3, mm]; exact ag.rf)
        · show up T4 142 41 (-1) a = T2 a
          by_cases c : a = 142
          · omega
          · rw [up_ne c, r2'.2.1 a ha, up_ne c]
        · show up T4 142 41 (-1) 142 j = T2 142 j
          by_cases c : j = 41
          · subst c; rw [up_at, p4' 41 (by decide) (by decide), m4]
          · rw [up_off c, r2'.2.2 j hj, up_off c]
      · show up T4 142 41 (-1) 142 3 = 0
        rw [up_off (by decide), r4' 3 (by decide) (by decide), ← hT3, up_off (by decide), p4' 3 (by decide) (by decide), m5]
      · show x4 &&& (x5 ^^^ (-1)) = _
        have a1 : rg V (mr T1) (S 37) := by rw [m2, hT.mr]; exact hR.rag.sm
        rw [show x4 = _ from p1, show x5 = _ from r1, orL_hrsZ (ag_ROk hV agm.sm m3) hV hs 30 (by decide), hrsZ_m hS6]
        rw [orL_congr (r := hrs V (mr T1) 30) (r' := hrs V (S 37) 30) _ (fun q hq => rg_hrs hV a1 m3 30 (by decide) _ (rl_a (by omega) (by omega) (by omega))), orL_congr (r := mr T3) (r' := S 37) _ (fun q hq => ((agm.w hV).tr a1) _ (rl_a (by omega) (by omega) (by omega)))]
  · refine ⟨.inr 1, ?_, fun T hT => ?_⟩
    · unfold fX9_lost
      rw [C_nS_f hR h1, bt_x]
      exact ok_some ⟨rfl, cK.rf⟩
    · unfold fX10_lost
      rw [pf_s, M_isS_f ((hR.c hT).M.go (fun a ha => up_ne (by omega))) h1, bd_s, if_pos rfl, m_fail]
      exact ok_some ⟨mKx, Or.inl ⟨rfl, rfl⟩⟩
