/-! larks -/
def sdN (x : Int32) : Int32 := x * 1103515245 + 12345
def drw (x : Int32) (n : Nat) : Nat := (x >>> ((16 : Int32) &&& 31)).toBitVec.toNat % 2 ^ 15 % n
theorem drw_lt {x : Int32} {n : Nat} (h : 0 < n) : drw x n < n := Nat.mod_lt _ h
theorem rm_drw {β : Type} {x : Int32} {n : Nat} {k : Int32 → Option β} (h0 : 0 < n) (hn : n < 2 ^ 31) : rm' ((x >>> ((16 : Int32) &&& 31)) &&& 32767) (nI n) k = k (nI (drw x n)) := by
  have hm := Nat.mod_lt (x >>> ((16 : Int32) &&& 31)).toBitVec.toNat (show 2 ^ 15 > 0 by decide)
  rw [pk_and (x >>> ((16 : Int32) &&& 31)) 15 rfl, rm_n (by omega) h0 hn]
  rfl
def lk1 (V : Vy) (s : Int32 × Rw) : Int32 × Rw := if 0 < vF V ∧ 0 < vS' V then (sdN (sdN s.1), spr V s.2 (plN V s.2 (drw (sdN (sdN s.1)) (vS' V))) (-1) (nI (drw (sdN s.1) (vF V)))) else s
def lks (V : Vy) (s : Int32 × Rw) : Nat → Int32 × Rw
  | 0 => s
  | n + 1 => ((lk1 V (lks V s n)).1, hr1 V (lk1 V (lks V s n)).2)
theorem lk1_ok {V : Vy} (hV : VOk V) {hm : Nat} {s : Int32 × Rw} (hr : ROk V hm s.2) : ROk V hm (lk1 V s).2 := by
  unfold lk1
  split
  · rename_i c; exact spr_ok hr hV (drw_lt c.1)
  · exact hr
theorem lks_ok {V : Vy} (hV : VOk V) {hm : Nat} {s : Int32 × Rw} (hr : ROk V hm s.2) : ∀ n, hm + n ≤ 20000 → ROk V (hm + n) (lks V s n).2 := by
  intro n
  induction n with
  | zero => intro _; exact hr
  | succ n ih => intro h; exact (hr1_ok (lk1_ok hV (ih (by omega))) hV (by omega)).1
theorem rg_lk1 {V : Vy} (hV : VOk V) {d : Int32} {r r' : Rw} (h : rg V r r') : (lk1 V (d, r)).1 = (lk1 V (d, r')).1 ∧ rg V (lk1 V (d, r)).2 (lk1 V (d, r')).2 := by
  unfold lk1
  by_cases c : 0 < vF V ∧ 0 < vS' V
  · rw [if_pos c, if_pos c]
    refine ⟨rfl, ?_⟩
    show rg V (spr V r (plN V r _) (-1) _) (spr V r' (plN V r' _) (-1) _)
    rw [rg_plN hV h (drw_lt c.2)]
    exact rg_spr hV h
  · rw [if_neg c, if_neg c]; exact ⟨rfl, h⟩
theorem rg_lks {V : Vy} (hV : VOk V) {hm : Nat} {d : Int32} {r r' : Rw} (h : rg V r r') (hr : ROk V hm r) : ∀ n, hm + n ≤ 20000 → (lks V (d, r) n).1 = (lks V (d, r') n).1 ∧ rg V (lks V (d, r) n).2 (lks V (d, r') n).2 := by
  intro n
  induction n with
  | zero => intro _; exact ⟨rfl, h⟩
  | succ n ih =>
    intro hn
    obtain ⟨i1, i2⟩ := ih (by omega)
    have q := rg_lk1 hV (d := (lks V (d, r) n).1) i2
    have e : lks V (d, r') n = ((lks V (d, r) n).1, (lks V (d, r') n).2) := by rw [i1]
    refine ⟨?_, ?_⟩
    · show (lk1 V (lks V (d, r) n)).1 = (lk1 V (lks V (d, r') n)).1
      rw [e]; exact q.1
    · show rg V (hr1 V (lk1 V (lks V (d, r) n)).2) (hr1 V (lk1 V (lks V (d, r') n)).2)
      rw [e]
      exact rg_hr1 hV q.2 (lk1_ok hV (lks_ok hV (s := (d, r)) hr n (by omega))) (by omega)
theorem C_larks {V : Vy} {v hm n : Nat} {S : St} {sd : Int32} (hC : VC V v S) (h0 : S 130 0 = nI v) (hr : ROk V hm (S 131)) (hn : n ≤ 60) (hm9 : hm + n ≤ 20000) : ok (fX0_goWithLarks sd (nI n) S) (fun S' => S' 131 = (lks V (sd, S 131) n).2 ∧ S' 130 0 = nI v ∧ cFr S S') := by
  have hV := hC.1
  have hF8 := hV.1
  have hS6 := hV.2.1
  have hv := hC.2.1
  unfold fX0_goWithLarks
  refine ok_for (σ := Int32 × St) (fun k i W => LX0_goWithLarks_5 k (nI n) W.1 (nI i) W.2) _ (fun i W => W.1 = (lks V (sd, S 131) i).1 ∧ W.2 131 = (lks V (sd, S 131) i).2 ∧ W.2 130 0 = nI v ∧ cFr S W.2) n ?_ ?_ FU 0 (sd, S) (by omega) (by unfold FU; omega) ⟨rfl, rfl, h0, fun _ _ _ _ _ _ => rfl⟩
  · intro k W hW
    simp (disch := omega) only [LX0_goWithLarks_5, KX0_goWithLarks_5, nI_leE, nI_ltE, nI_eqE, nI_m1, c0a, c0b, c0c, c0d, c0e, c1a, c1b, c1c, c1d, c1e, c2a, c2b, c2c, c2d, c2e, c3a, c3b, c3c, c3d, c3e, c4a, c4b, c4c, c4d, c4e, c5a, c5b, c5c, c5d, c5e, c6a, c6b, c6c, c6d, c6e, c7a, c7b, c7c, c7d, c7e, c8a, c8b, c8c, c8d, c8e, c9a, c9b, c9c, c9d, c9e, c10a, c10b, c10c, c10d, c10e, c12a, c12b, c12c, c12d, c12e, c14a, c14b, c14c, c14d, c14e, c16a, c16b, c16c, c16d, c16e, c20a, c20b, c20c, c20d, c20e, c30a, c30b, c30c, c30d, c30e, c32a, c32b, c32c, c32d, c32e, c36a, c36b, c36c, c36d, c36e, c40a, c40b, c40c, c40d, c40e, c41a, c41b, c41c, c41d, c41e, c42a, c42b, c42c, c42d, c42e, c43a, c43b, c43c, c43d, c43e, c45a, c45b, c45c, c45d, c45e, c47a, c47b, c47c, c47d, c47e, c48a, c48b, c48c, c48d, c48e, c57a, c57b, c57c, c57d, c57e, c59a, c59b, c59c, c59d, c59e, c60a, c60b, c60c, c60d, c60e, c61a, c61b, c61c, c61d, c61e, c62a, c62b, c62c, c62d, c62e, c64a, c64b, c64c, c64d, c64e, c96a, c96b, c96c, c96d, c96e, c97a, c97b, c97c, c97d, c97e, c98a, c98b, c98c, c98d, c98e, c99a, c99b, c99c, c99d, c99e, c100a, c100b, c100c, c100d, c100e, c122a, c122b, c122c, c122d, c122e, c700a, c700b, c700c, c700d, c700e, c4240a, c4240b, c4240c, c4240d, c4240e, c9999a, c9999b, c9999c, c9999d, c9999e, c100000a, c100000b, c100000c, c100000d, c100000e, c1000000a, c1000000b, c1000000c, c1000000d, c1000000e, if_T]
    exact ok_some hW.2
  · intro k i W hi hW ih
    obtain ⟨w1, w2, w3, w4⟩ := hW
    have ro := lks_ok hV (s := (sd, S 131)) hr i (by omega)
    have hCW := hC.fr w4
    have eF := hCW.2.2.1
    have eS := hCW.2.2.2.1
    have tail : ∀ (T : St) (x : Int32), T 131 = (lk1 V (lks V (sd, S 131) i)).2 → T 130 0 = nI v → cFr S T → x = (lk1 V (lks V (sd, S 131) i)).1 → ok (BX0_goWithLarks_96 (LX0_goWithLarks_5 k) (nI n) x (nI i) T) (fun S' => S' 131 = (lks V (sd, S 131) n).2 ∧ S' 130 0 = nI v ∧ cFr S S') := by
      intro T x t1 t2 t3 t4
      obtain ⟨T1, e1, g1, g2, g3, g4, g5, g6, g7⟩ := C_goHour (hC.fr t3) t2 (by rw [t1]; exact lk1_ok hV ro) (by omega)
      unfold BX0_goWithLarks_96
      rw [e1, bv_s, vl_s, nI_1]
      exact ih (x, T1) ⟨t4, by show T1 131 = _; rw [g1, t1]; rfl, by show T1 130 0 = _; rw [g6]; exact t2, fun a h1 h2 h3 h4 h5 => (g7 a h1 h2 h3 h4 h5).trans (t3 a h1 h2 h3 h4 h5)⟩
    simp (disch := omega) only [LX0_goWithLarks_5, KX0_goWithLarks_5, nI_leE, nI_ltE, nI_eqE, nI_m1, c0a, c0b, c0c, c0d, c0e, c1a, c1b, c1c, c1d, c1e, c2a, c2b, c2c, c2d, c2e, c3a, c3b, c3c, c3d, c3e, c4a, c4b, c4c, c4d, c4e, c5a, c5b, c5c, c5d, c5e, c6a, c6b, c6c, c6d, c6e, c7a, c7b, c7c, c7d, c7e, c8a, c8b, c8c, c8d, c8e, c9a, c9b, c9c, c9d, c9e, c10a, c10b, c10c, c10d, c10e, c12a, c12b, c12c, c12d, c12e, c14a, c14b, c14c, c14d, c14e, c16a, c16b, c16c, c16d, c16e, c20a, c20b, c20c, c20d, c20e, c30a, c30b, c30c, c30d, c30e, c32a, c32b, c32c, c32d, c32e, c36a, c36b, c36c, c36d, c36e, c40a, c40b, c40c, c40d, c40e, c41a, c41b, c41c, c41d, c41e, c42a, c42b, c42c, c42d, c42e, c43a, c43b, c43c, c43d, c43e, c45a, c45b, c45c, c45d, c45e, c47a, c47b, c47c, c47d, c47e, c48a, c48b, c48c, c48d, c48e, c57a, c57b, c57c, c57d, c57e, c59a, c59b, c59c, c59d, c59e, c60a, c60b, c60c, c60d, c60e, c61a, c61b, c61c, c61d, c61e, c62a, c62b, c62c, c62d, c62e, c64a, c64b, c64c, c64d, c64e, c96a, c96b, c96c, c96d, c96e, c97a, c97b, c97c, c97d, c97e, c98a, c98b, c98c, c98d, c98e, c99a, c99b, c99c, c99d, c99e, c100a, c100b, c100c, c100d, c100e, c122a, c122b, c122c, c122d, c122e, c700a, c700b, c700c, c700d, c700e, c4240a, c4240b, c4240c, c4240d, c4240e, c9999a, c9999b, c9999c, c9999d, c9999e, c100000a, c100000b, c100000c, c100000d, c100000e, c1000000a, c1000000b, c1000000c, c1000000d, c1000000e, if_F, gm_v w3 hv, eF, eS]
    by_cases c1 : vF V = 0
    · rw [if_pos (by omega)]
      exact tail W.2 W.1 (by unfold lk1; rw [if_neg (by omega)]; exact w2) w3 w4 (by unfold lk1; rw [if_neg (by omega)]; exact w1)
    · rw [if_neg (by omega)]
      by_cases c2 : vS' V = 0
      · rw [if_pos (by omega)]
        exact tail W.2 W.1 (by unfold lk1; rw [if_neg (by omega)]; exact w2) w3 w4 (by unfold lk1; rw [if_neg (by omega)]; exact w1)
      · rw [if_neg (by omega)]
        have cc : 0 < vF V ∧ 0 < vS' V := by omega
        unfold fX0_nextSeed
        simp only [ri_s, bd_s]
        rw [gm_v w3 hv, eF, rm_drw cc.1 (by omega), gm_v w3 hv, eS, rm_drw cc.2 (by omega)]
        obtain ⟨T1, e1, p1, p2⟩ := C_findPlaces hCW w3 (by rw [w2]; exact ro) (by omega)
        have sg := drw_lt (x := (W.1 * 1103515245 + 12345) * 1103515245 + 12345) cc.2
        have hc1 : Cs V v (hm + i) T1 := ⟨hCW.go (fun a h1 h2 h3 => p2 a (by omega)), by rw [p2 130 (by decide)]; exact w3, by rw [p2 131 (by decide), w2]; exact ro, by omega, fun s hs => by rw [p1 s hs, p2 131 (by decide)]⟩
        obtain ⟨f, hf, ef, ef2⟩ := pl_ok (by rw [w2]; exact ro : ROk V (hm + i) (W.2 131)) hV (by omega) sg
        have tn := drw_lt (x := W.1 * 1103515245 + 12345) cc.1
        obtain ⟨⟨x14, T2⟩, e2, -, q2, q3⟩ := C_spread hc1 (a := f) (t := drw (W.1 * 1103515245 + 12345) (vF V)) (but := -1) hf tn
        have q2' : T2 131 = spr V (T1 131) f (-1) (nI (drw (W.1 * 1103515245 + 12345) (vF V))) := q2
        have q3' : ∀ b, b ≠ 131 → T2 b = T1 b := q3
        have e132 : T1 132 (drw ((W.1 * 1103515245 + 12345) * 1103515245 + 12345) (vS' V)) = nI f := by rw [p1 _ sg]; exact ef
        rw [e1, bv_s, rd132 (by have := sg; omega), e132, e2, bd_s]
        have elk : lk1 V (lks V (sd, S 131) i) = ((W.1 * 1103515245 + 12345) * 1103515245 + 12345, spr V (W.2 131) f (-1) (nI (drw (W.1 * 1103515245 + 12345) (vF V)))) := by
          unfold lk1
          rw [if_pos cc, ← w1, ← w2]
          have : plN V (W.2 131) (drw (sdN (sdN W.1)) (vS' V)) = f := ef2
          rw [this]; rfl
        refine tail T2 _ ?_ ?_ ?_ ?_
        · rw [q2', p2 131 (by decide), elk]
        · rw [q3' 130 (by decide), p2 130 (by decide)]; exact w3
        · exact fun a h1 h2 h3 h4 h5 => by rw [q3' a (by omega), p2 a (by omega)]; exact w4 a h1 h2 h3 h4 h5
        · rw [elk]
/-- the reference's lark -/
theorem M_lark {V : Vy} {hm : Nat} {S : St} (hM : VM V S) (hr : ROk V hm (mr S)) (hm9 : hm ≤ 20000) : ok (fX10_lark S) (fun S' => S' 142 56 = (lk1 V (S 142 56, mr S)).1 ∧ mr S' = (lk1 V (S 142 56, mr S)).2 ∧ (∀ a, a ≠ 142 → a ≠ 158 → S' a = S a) ∧ ∀ j, j ≠ 56 → S' 142 j = S 142 j) := by
  have hV := hM.1
  have hF8 := hV.1
  have hS6 := hV.2.1
  have eF := hM.2.1
  have eS := hM.2.2.1
  unfold fX10_lark
  simp (disch := omega) only [rd145, rd146, rd147, rd148, rd149, rd150, rd151, rd152, rd153, rd154, rd155, rd156, rd157, rd158, rd159, rd160, rd161, rd162, rd163, rd164, rd165, rd166, rd167, rd168, rd169, rd170, rd171, rd172, rd173, rd174, rd175, rd176, rd177, rd178, rd179, rd180, rd181, rd182, rd183, rd184, rd185, rd145_0, rd145_2, rd145_3, rd145_4, rd145_5, rd145_6, rd145_7, rd156_0, rd156_1, rd166_0, rd178_0, eF, eS, nI_leE, nI_ltE, nI_eqE, nI_m1, c0a, c0b, c0c, c0d, c0e, c1a, c1b, c1c, c1d, c1e, c2a, c2b, c2c, c2d, c2e, c3a, c3b, c3c, c3d, c3e, c4a, c4b, c4c, c4d, c4e, c5a, c5b, c5c, c5d, c5e, c6a, c6b, c6c, c6d, c6e, c7a, c7b, c7c, c7d, c7e, c8a, c8b, c8c, c8d, c8e, c9a, c9b, c9c, c9d, c9e, c10a, c10b, c10c, c10d, c10e, c12a, c12b, c12c, c12d, c12e, c14a, c14b, c14c, c14d, c14e, c16a, c16b, c16c, c16d, c16e, c20a, c20b, c20c, c20d, c20e, c30a, c30b, c30c, c30d, c30e, c32a, c32b, c32c, c32d, c32e, c36a, c36b, c36c, c36d, c36e, c40a, c40b, c40c, c40d, c40e, c41a, c41b, c41c, c41d, c41e, c42a, c42b, c42c, c42d, c42e, c43a, c43b, c43c, c43d, c43e, c45a, c45b, c45c, c45d, c45e, c47a, c47b, c47c, c47d, c47e, c48a, c48b, c48c, c48d, c48e, c57a, c57b, c57c, c57d, c57e, c59a, c59b, c59c, c59d, c59e, c60a, c60b, c60c, c60d, c60e, c61a, c61b, c61c, c61d, c61e, c62a, c62b, c62c, c62d, c62e, c64a, c64b, c64c, c64d, c64e, c96a, c96b, c96c, c96d, c96e, c97a, c97b, c97c, c97d, c97e, c98a, c98b, c98c, c98d, c98e, c99a, c99b, c99c, c99d, c99e, c100a, c100b, c100c, c100d, c100e, c122a, c122b, c122c, c122d, c122e, c700a, c700b, c700c, c700d, c700e, c4240a, c4240b, c4240c, c4240d, c4240e, c9999a, c9999b, c9999c, c9999d, c9999e, c100000a, c100000b, c100000c, c100000d, c100000e, c1000000a, c1000000b, c1000000c, c1000000d, c1000000e]
  by_cases c1 : vF V = 0
  · rw [if_pos c1]
    unfold lk1
    rw [if_neg (by omega)]
    exact ok_some ⟨rfl, rfl, fun _ _ _ => rfl, fun _ _ => rfl⟩
  · rw [if_neg c1]
    by_cases c2 : vS' V = 0
    · rw [if_pos c2]
      unfold lk1
      rw [if_neg (by omega)]
      exact ok_some ⟨rfl, rfl, fun _ _ _ => rfl, fun _ _ => rfl⟩
    · rw [if_neg c2]
      have cc : 0 < vF V ∧ 0 < vS' V := by omega
      have d1 : ∀ (T : St) (n : Nat), 0 < n → n ≤ 8 → fX10_drawOf (nI n) T = some (nI (drw (sdN (T 142 56)) n), up T 142 56 (sdN (T 142 56))) := by
        intro T n n0 n8
        unfold fX10_drawOf
        rw [pf_s, up_at, rm_drw n0 (by omega)]; rfl
      rw [d1 S _ cc.1 hF8, bd_s]
      generalize hS1 : up S 142 56 (sdN (S 142 56)) = S1
      have s56 : S1 142 56 = sdN (S 142 56) := by rw [← hS1, up_at]
      have e145 : S1 145 2 = nI (vS' V) := by rw [← hS1, up_ne (by decide)]; exact eS
      rw [e145, d1 S1 _ cc.2 (by omega), bd_s, s56]
      generalize hS2 : up S1 142 56 (sdN (sdN (S 142 56))) = S2
      have m2 : mr S2 = mr S := by rw [← hS2, mr_up (by omega) (by omega), ← hS1, mr_up (by omega) (by omega)]
      have s2 : ∀ a, a ≠ 142 → S2 a = S a := fun a ha => by rw [← hS2, up_ne ha, ← hS1, up_ne ha]
      have s2j : ∀ j, j ≠ 56 → S2 142 j = S 142 j := fun j hj => by rw [← hS2, up_off hj, ← hS1, up_off hj]
      have s256 : S2 142 56 = sdN (sdN (S 142 56)) := by rw [← hS2, up_at]
      have hM2 : VM V S2 := hM.go (fun a ha => s2 a (by omega))
      have hr2 : ROk V hm (mr S2) := by rw [m2]; exact hr
      have sg := drw_lt (x := sdN (sdN (S 142 56))) cc.2
      have tn := drw_lt (x := sdN (S 142 56)) cc.1
      obtain ⟨f, hf, ef, ef2⟩ := pl_ok hr hV hm9 sg
      have ep := M_placeOf hM2 hr2 hm9 sg
      rw [m2, ef] at ep
      have eh := M_hearers hM2 hr2 hm9 (a := f) (but := -1) hf
      rw [m2] at eh
      generalize hhb : hbits (hears V (mr S) f (-1)) (vS' V) = hb at eh
      have hb8 : hb < 256 := by rw [← hhb]; exact Nat.lt_of_lt_of_le (hb_lt _) (Nat.pow_le_pow_right (by decide) (by omega : vS' V ≤ 8))
      have hbb : ∀ q, q < vS' V → bit (nI hb) (nI q) = hears V (mr S) f (-1) q := fun q hq => by
        rw [bit_N hb hb8 q (by omega), ← hhb, hb_test]
        simp [hq]
      rw [ep, bd_s, eh, bd_s]
      have elk : lk1 V (S 142 56, mr S) = (sdN (sdN (S 142 56)), spr V (mr S) f (-1) (nI (drw (sdN (S 142 56)) (vF V)))) := by
        unfold lk1
        rw [if_pos cc]
        have : plN V (mr S) (drw (sdN (sdN (S 142 56))) (vS' V)) = f := ef2
        rw [this]
      rw [elk]
      generalize hp : hears V (mr S) f (-1) = p at hbb
      refine ok_for (fun n i T => LX10_lark_55 n (nI (drw (sdN (S 142 56)) (vF V))) (nI hb) (nI i) T) _ (fun i T => (∀ j, mr T j = if 2 ≤ j ∧ j < 2 + i ∧ p (j - 2) = true then mr S j ||| pw (nI (drw (sdN (S 142 56)) (vF V))) else mr S j) ∧ ∀ a, a ≠ 158 → T a = S2 a) (vS' V) ?_ ?_ FU 0 S2 (by omega) (by unfold FU; omega) ⟨fun j => by rw [if_neg (by omega), m2], fun _ _ => rfl⟩
      · intro n T hI
        have e2 : T 145 2 = nI (vS' V) := by rw [hI.2 145 (by decide), s2 145 (by decide)]; exact eS
        simp (disch := omega) only [LX10_lark_55, KX10_lark_55, rd145, rd146, rd147, rd148, rd149, rd150, rd151, rd152, rd153, rd154, rd155, rd156, rd157, rd158, rd159, rd160, rd161, rd162, rd163, rd164, rd165, rd166, rd167, rd168, rd169, rd170, rd171, rd172, rd173, rd174, rd175, rd176, rd177, rd178, rd179, rd180, rd181, rd182, rd183, rd184, rd185, rd145_0, rd145_2, rd145_3, rd145_4, rd145_5, rd145_6, rd145_7, rd156_0, rd156_1, rd166_0, rd178_0, e2, nI_leE, nI_ltE, nI_eqE, nI_m1, c0a, c0b, c0c, c0d, c0e, c1a, c1b, c1c, c1d, c1e, c2a, c2b, c2c, c2d, c2e, c3a, c3b, c3c, c3d, c3e, c4a, c4b, c4c, c4d, c4e, c5a, c5b, c5c, c5d, c5e, c6a, c6b, c6c, c6d, c6e, c7a, c7b, c7c, c7d, c7e, c8a, c8b, c8c, c8d, c8e, c9a, c9b, c9c, c9d, c9e, c10a, c10b, c10c, c10d, c10e, c12a, c12b, c12c, c12d, c12e, c14a, c14b, c14c, c14d, c14e, c16a, c16b, c16c, c16d, c16e, c20a, c20b, c20c, c20d, c20e, c30a, c30b, c30c, c30d, c30e, c32a, c32b, c32c, c32d, c32e, c36a, c36b, c36c, c36d, c36e, c40a, c40b, c40c, c40d, c40e, c41a, c41b, c41c, c41d, c41e, c42a, c42b, c42c, c42d, c42e, c43a, c43b, c43c, c43d, c43e, c45a, c45b, c45c, c45d, c45e, c47a, c47b, c47c, c47d, c47e, c48a, c48b, c48c, c48d, c48e, c57a, c57b, c57c, c57d, c57e, c59a, c59b, c59c, c59d, c59e, c60a, c60b, c60c, c60d, c60e, c61a, c61b, c61c, c61d, c61e, c62a, c62b, c62c, c62d, c62e, c64a, c64b, c64c, c64d, c64e, c96a, c96b, c96c, c96d, c96e, c97a, c97b, c97c, c97d, c97e, c98a, c98b, c98c, c98d, c98e, c99a, c99b, c99c, c99d, c99e, c100a, c100b, c100c, c100d, c100e, c122a, c122b, c122c, c122d, c122e, c700a, c700b, c700c, c700d, c700e, c4240a, c4240b, c4240c, c4240d, c4240e, c9999a, c9999b, c9999c, c9999d, c9999e, c100000a, c100000b, c100000c, c100000d, c100000e, c1000000a, c1000000b, c1000000c, c1000000d, c1000000e, if_T]
        refine ok_some ⟨by rw [hI.2 142 (by decide), s256], ?_, fun a h1 h2 => by rw [hI.2 a h2, s2 a h1], fun j hj => by rw [hI.2 142 (by decide), s2j j hj]⟩
        funext j
        rw [hI.1 j]
        unfold spr
        rw [hp]
      · intro n i T hi hI ih
        obtain ⟨i1, i3⟩ := hI
        have e2 : T 145 2 = nI (vS' V) := by rw [i3 145 (by decide), s2 145 (by decide)]; exact eS
        have hb' := hbb i hi
        simp (disch := omega) only [LX10_lark_55, KX10_lark_55, rd145, rd146, rd147, rd148, rd149, rd150, rd151, rd152, rd153, rd154, rd155, rd156, rd157, rd158, rd159, rd160, rd161, rd162, rd163, rd164, rd165, rd166, rd167, rd168, rd169, rd170, rd171, rd172, rd173, rd174, rd175, rd176, rd177, rd178, rd179, rd180, rd181, rd182, rd183, rd184, rd185, rd145_0, rd145_2, rd145_3, rd145_4, rd145_5, rd145_6, rd145_7, rd156_0, rd156_1, rd166_0, rd178_0, e2, nI_leE, nI_ltE, nI_eqE, nI_m1, c0a, c0b, c0c, c0d, c0e, c1a, c1b, c1c, c1d, c1e, c2a, c2b, c2c, c2d, c2e, c3a, c3b, c3c, c3d, c3e, c4a, c4b, c4c, c4d, c4e, c5a, c5b, c5c, c5d, c5e, c6a, c6b, c6c, c6d, c6e, c7a, c7b, c7c, c7d, c7e, c8a, c8b, c8c, c8d, c8e, c9a, c9b, c9c, c9d, c9e, c10a, c10b, c10c, c10d, c10e, c12a, c12b, c12c, c12d, c12e, c14a, c14b, c14c, c14d, c14e, c16a, c16b, c16c, c16d, c16e, c20a, c20b, c20c, c20d, c20e, c30a, c30b, c30c, c30d, c30e, c32a, c32b, c32c, c32d, c32e, c36a, c36b, c36c, c36d, c36e, c40a, c40b, c40c, c40d, c40e, c41a, c41b, c41c, c41d, c41e, c42a, c42b, c42c, c42d, c42e, c43a, c43b, c43c, c43d, c43e, c45a, c45b, c45c, c45d, c45e, c47a, c47b, c47c, c47d, c47e, c48a, c48b, c48c, c48d, c48e, c57a, c57b, c57c, c57d, c57e, c59a, c59b, c59c, c59d, c59e, c60a, c60b, c60c, c60d, c60e, c61a, c61b, c61c, c61d, c61e, c62a, c62b, c62c, c62d, c62e, c64a, c64b, c64c, c64d, c64e, c96a, c96b, c96c, c96d, c96e, c97a, c97b, c97c, c97d, c97e, c98a, c98b, c98c, c98d, c98e, c99a, c99b, c99c, c99d, c99e, c100a, c100b, c100c, c100d, c100e, c122a, c122b, c122c, c122d, c122e, c700a, c700b, c700c, c700d, c700e, c4240a, c4240b, c4240c, c4240d, c4240e, c9999a, c9999b, c9999c, c9999d, c9999e, c100000a, c100000b, c100000c, c100000d, c100000e, c1000000a, c1000000b, c1000000c, c1000000d, c1000000e, if_F, M_isOf, hb', bd_s, bv_s, bt_s, bt_x, vl_s, pf_s, ri_s, rz_0, rz_1, tri_s, trz_0, trz_1, trx_s, pz_0, pz_1, nI_add, pk_mul, up_at, la2, la5, la6, la8, la14, la62, la64, la98, la700, ra1, ra2, ra6, ra8, ra12, ra20, ra36, ra48, lm6, lm8, lm10, lm100, lm106, rm6, rm8, rm10, rm100, rm106, BX10_lark_90, wr145, wr146, wr147, wr148, wr149, wr150, wr151, wr152, wr153, wr154, wr155, wr156, wr157, wr158, wr159, wr160, wr161, wr162, wr163, wr164, wr165, wr166, wr167, wr168, wr169, wr170, wr171, wr172, wr173, wr174, wr175, wr176, wr177, wr178, wr179, wr180, wr181, wr182, wr183, wr184, wr185, wr145_5, wr145_6, wr145_7, wr156_0, wr156_1, wr165_0, wr165_1, wr165_2, wr165_3, wr165_4]
        have e158 : T 158 i = mr S (2 + i) := by rw [← mr_k (S := T) (q := i) (by omega), i1, if_neg (by omega)]
        have step : ∀ x : Int32, x = (if p i = true then mr S (2 + i) ||| pw (nI (drw (sdN (S 142 56)) (vF V))) else mr S (2 + i)) → (∀ j, mr (up T 158 i x) j = if 2 ≤ j ∧ j < 2 + (i + 1) ∧ p (j - 2) = true then mr S j ||| pw (nI (drw (sdN (S 142 56)) (vF V))) else mr S j) ∧ ∀ a, a ≠ 158 → up T 158 i x a = S2 a := by
          intro x hx
          refine ⟨fun j => ?_, fun b hb => by rw [up_ne hb]; exact i3 b hb⟩
          rw [mr_uk (by omega)]
          by_cases q : j = 2 + i
          · subst q
            rw [upd_at, hx]
            have : (2 ≤ 2 + i ∧ 2 + i < 2 + (i + 1) ∧ p (2 + i - 2) = true) ↔ p i = true := by rw [Nat.add_sub_cancel_left]; exact ⟨fun z => z.2.2, fun z => ⟨by omega, by omega, z⟩⟩
            simp only [this]
          · rw [upd_ne q, i1 j]
            have : (2 ≤ j ∧ j < 2 + i ∧ p (j - 2) = true) ↔ (2 ≤ j ∧ j < 2 + (i + 1) ∧ p (j - 2) = true) := ⟨fun z => ⟨z.1, by omega, z.2.2⟩, fun z => ⟨z.1, by omega, z.2.2⟩⟩
            simp only [this]
        cases hpi : p i with
        | true =>
          simp only [if_true]
          rw [if_neg (by decide), e158]
          exact ih _ (step _ (by rw [hpi]; rfl))
        | false =>
          simp only [Bool.false_eq_true, if_false]
          rw [if_pos trivial, e158]
          exact ih _ (step _ (by rw [hpi]; simp))
/-- all that is known; the greatest purse -/
def knT (r : Rw) : Nat → Nat
  | 0 => 0
  | s + 1 => knT r s + pop (r (2 + s)).toNatClampNeg
def gpM (r : Rw) (x : Int32) : Nat → Int32
  | 0 => x
  | s + 1 => if gpM r x s < r (8 + s) then r (8 + s) else gpM r x s
theorem rg_knT {V : Vy} (hV : VOk V) {r r' : Rw} (h : rg V r r') : ∀ n, n ≤ vS' V → knT r n = knT r' n := by
  intro n
  induction n with
  | zero => intro _; rfl
  | succ n ih => intro hn; have := hV.2.1; show knT r n + _ = knT r' n + _; rw [ih (by omega), h _ (rl_a (by omega) (by omega) (by omega))]
theorem rg_gpM {V : Vy} (hV : VOk V) {r r' : Rw} (h : rg V r r') {x : Int32} : ∀ n, n ≤ vS' V → gpM r x n = gpM r' x n := by
  intro n
  induction n with
  | zero => intro _; rfl
  | succ n ih => intro hn; have := hV.2.1; show (if _ then _ else _) = (if _ then _ else _); rw [ih (by omega), h _ (rl_a (by omega) (by omega) (by omega))]
theorem C_knT {V : Vy} {v hm : Nat} {S : St} (hC : VC V v S) (h0 : S 130 0 = nI v) (hr : ROk V hm (S 131)) : fX0_knownTogether S = some (nI (knT (S 131) (vS' V)), S) := by
  have hV := hC.1
  have hS6 := hV.2.1
  have hF8 := hV.1
  have hv := hC.2.1
  have hS := hC.2.2.2.1
  have : ok (fX0_knownTogether S) (fun q => q = (nI (knT (S 131) (vS' V)), S)) := by
    unfold fX0_knownTogether
    refine ok_for (σ := Int32) (fun n i x => LX0_knownTogether_4 n x (nI i) S) _ (fun i x => x = nI (knT (S 131) i)) (vS' V) ?_ ?_ FU 0 0 (by omega) (by unfold FU; omega) rfl
    · intro n x hI
      subst hI
      simp (disch := omega) only [LX0_knownTogether_4, KX0_knownTogether_4, gm_v h0 hv, hS, nI_leE, nI_ltE, nI_eqE, nI_m1, c0a, c0b, c0c, c0d, c0e, c1a, c1b, c1c, c1d, c1e, c2a, c2b, c2c, c2d, c2e, c3a, c3b, c3c, c3d, c3e, c4a, c4b, c4c, c4d, c4e, c5a, c5b, c5c, c5d, c5e, c6a, c6b, c6c, c6d, c6e, c7a, c7b, c7c, c7d, c7e, c8a, c8b, c8c, c8d, c8e, c9a, c9b, c9c, c9d, c9e, c10a, c10b, c10c, c10d, c10e, c12a, c12b, c12c, c12d, c12e, c14a, c14b, c14c, c14d, c14e, c16a, c16b, c16c, c16d, c16e, c20a, c20b, c20c, c20d, c20e, c30a, c30b, c30c, c30d, c30e, c32a, c32b, c32c, c32d, c32e, c36a, c36b, c36c, c36d, c36e, c40a, c40b, c40c, c40d, c40e, c41a, c41b, c41c, c41d, c41e, c42a, c42b, c42c, c42d, c42e, c43a, c43b, c43c, c43d, c43e, c45a, c45b, c45c, c45d, c45e, c47a, c47b, c47c, c47d, c47e, c48a, c48b, c48c, c48d, c48e, c57a, c57b, c57c, c57d, c57e, c59a, c59b, c59c, c59d, c59e, c60a, c60b, c60c, c60d, c60e, c61a, c61b, c61c, c61d, c61e, c62a, c62b, c62c, c62d, c62e, c64a, c64b, c64c, c64d, c64e, c96a, c96b, c96c, c96d, c96e, c97a, c97b, c97c, c97d, c97e, c98a, c98b, c98c, c98d, c98e, c99a, c99b, c99c, c99d, c99e, c100a, c100b, c100c, c100d, c100e, c122a, c122b, c122c, c122d, c122e, c700a, c700b, c700c, c700d, c700e, c4240a, c4240b, c4240c, c4240d, c4240e, c9999a, c9999b, c9999c, c9999d, c9999e, c100000a, c100000b, c100000c, c100000d, c100000e, c1000000a, c1000000b, c1000000c, c1000000d, c1000000e, if_T, ri_s]
      exact ok_some rfl
    · intro n i x hi hI ih
      subst hI
      obtain ⟨k, hk, ek⟩ := hr.2.1 i hi
      have hk8 : k < 256 := Nat.lt_of_lt_of_le hk (Nat.pow_le_pow_right (by decide) hF8 : 2 ^ vF V ≤ 2 ^ 8)
      simp (disch := omega) only [LX0_knownTogether_4, KX0_knownTogether_4, gm_v h0 hv, hS, nI_leE, nI_ltE, nI_eqE, nI_m1, c0a, c0b, c0c, c0d, c0e, c1a, c1b, c1c, c1d, c1e, c2a, c2b, c2c, c2d, c2e, c3a, c3b, c3c, c3d, c3e, c4a, c4b, c4c, c4d, c4e, c5a, c5b, c5c, c5d, c5e, c6a, c6b, c6c, c6d, c6e, c7a, c7b, c7c, c7d, c7e, c8a, c8b, c8c, c8d, c8e, c9a, c9b, c9c, c9d, c9e, c10a, c10b, c10c, c10d, c10e, c12a, c12b, c12c, c12d, c12e, c14a, c14b, c14c, c14d, c14e, c16a, c16b, c16c, c16d, c16e, c20a, c20b, c20c, c20d, c20e, c30a, c30b, c30c, c30d, c30e, c32a, c32b, c32c, c32d, c32e, c36a, c36b, c36c, c36d, c36e, c40a, c40b, c40c, c40d, c40e, c41a, c41b, c41c, c41d, c41e, c42a, c42b, c42c, c42d, c42e, c43a, c43b, c43c, c43d, c43e, c45a, c45b, c45c, c45d, c45e, c47a, c47b, c47c, c47d, c47e, c48a, c48b, c48c, c48d, c48e, c57a, c57b, c57c, c57d, c57e, c59a, c59b, c59c, c59d, c59e, c60a, c60b, c60c, c60d, c60e, c61a, c61b, c61c, c61d, c61e, c62a, c62b, c62c, c62d, c62e, c64a, c64b, c64c, c64d, c64e, c96a, c96b, c96c, c96d, c96e, c97a, c97b, c97c, c97d, c97e, c98a, c98b, c98c, c98d, c98e, c99a, c99b, c99c, c99d, c99e, c100a, c100b, c100c, c100d, c100e, c122a, c122b, c122c, c122d, c122e, c700a, c700b, c700c, c700d, c700e, c4240a, c4240b, c4240c, c4240d, c4240e, c9999a, c9999b, c9999c, c9999d, c9999e, c100000a, c100000b, c100000c, c100000d, c100000e, c1000000a, c1000000b, c1000000c, c1000000d, c1000000e, if_F, bd_s, bv_s, bt_s, bt_x, vl_s, pf_s, ri_s, rz_0, rz_1, tri_s, trz_0, trz_1, trx_s, pz_0, pz_1, nI_add, pk_mul, up_at, la2, la5, la6, la8, la14, la62, la64, la98, la700, ra1, ra2, ra6, ra8, ra12, ra20, ra36, ra48, lm6, lm8, lm10, lm100, lm106, rm6, rm8, rm10, rm100, rm106, rd131, rd132, rd133, rd134, rd135, rd136, rd131_0, rd131_1, rd131_8, ek, bc_n]
      unfold popI
      rw [nI_clamp (by omega), nI_add]
      refine ih _ ?_
      show _ = nI (knT (S 131) i + pop (S 131 (2 + i)).toNatClampNeg)
      rw [ek, nI_clamp (by omega)]
  obtain ⟨b, e, q⟩ := this
  rw [e, q]
theorem C_gp {V : Vy} {v hm : Nat} {S : St} (hC : VC V v S) (h0 : S 130 0 = nI v) (hr : ROk V hm (S 131)) : fX0_greatestPurse S = some (if vS' V = 0 then 0 else gpM (S 131) (-9999) (vS' V), S) := by
  have hV := hC.1
  have hS6 := hV.2.1
  have hv := hC.2.1
  have hS := hC.2.2.2.1
  unfold fX0_greatestPurse
  rw [gm_v h0 hv, hS]
  simp (disch := omega) only [nI_leE, nI_ltE, nI_eqE, nI_m1, c0a, c0b, c0c, c0d, c0e, c1a, c1b, c1c, c1d, c1e, c2a, c2b, c2c, c2d, c2e, c3a, c3b, c3c, c3d, c3e, c4a, c4b, c4c, c4d, c4e, c5a, c5b, c5c, c5d, c5e, c6a, c6b, c6c, c6d, c6e, c7a, c7b, c7c, c7d, c7e, c8a, c8b, c8c, c8d, c8e, c9a, c9b, c9c, c9d, c9e, c10a, c10b, c10c, c10d, c10e, c12a, c12b, c12c, c12d, c12e, c14a, c14b, c14c, c14d, c14e, c16a, c16b, c16c, c16d, c16e, c20a, c20b, c20c, c20d, c20e, c30a, c30b, c30c, c30d, c30e, c32a, c32b, c32c, c32d, c32e, c36a, c36b, c36c, c36d, c36e, c40a, c40b, c40c, c40d, c40e, c41a, c41b, c41c, c41d, c41e, c42a, c42b, c42c, c42d, c42e, c43a, c43b, c43c, c43d, c43e, c45a, c45b, c45c, c45d, c45e, c47a, c47b, c47c, c47d, c47e, c48a, c48b, c48c, c48d, c48e, c57a, c57b, c57c, c57d, c57e, c59a, c59b, c59c, c59d, c59e, c60a, c60b, c60c, c60d, c60e, c61a, c61b, c61c, c61d, c61e, c62a, c62b, c62c, c62d, c62e, c64a, c64b, c64c, c64d, c64e, c96a, c96b, c96c, c96d, c96e, c97a, c97b, c97c, c97d, c97e, c98a, c98b, c98c, c98d, c98e, c99a, c99b, c99c, c99d, c99e, c100a, c100b, c100c, c100d, c100e, c122a, c122b, c122c, c122d, c122e, c700a, c700b, c700c, c700d, c700e, c4240a, c4240b, c4240c, c4240d, c4240e, c9999a, c9999b, c9999c, c9999d, c9999e, c100000a, c100000b, c100000c, c100000d, c100000e, c1000000a, c1000000b, c1000000c, c1000000d, c1000000e]
  by_cases c : vS' V = 0
  · rw [if_neg (by omega), if_pos c]; rfl
  · rw [if_pos (by omega), if_neg c, rd131_8]
    have e8 : S 131 8 = gpM (S 131) (-9999) 1 := by
      show _ = if (-9999 : Int32) < S 131 (8 + 0) then S 131 (8 + 0) else -9999
      have b := (hr.2.2.1 0 (by omega)).1
      have z : (-9999 : Int32).toInt = -9999 := rfl
      by_cases q : (-9999 : Int32) < S 131 (8 + 0)
      · rw [if_pos q]
      · rw [if_neg q]
        rw [Int32.lt_iff_toInt_lt] at q
        exact Int32.toInt_inj.mp (by rw [z]; show (S 131 (8 + 0)).toInt = _; omega)
    have : ok (LX0_greatestPurse_23 FU (S 131 8) 1 S) (fun q => q = (gpM (S 131) (-9999) (vS' V), S)) := by
      refine ok_for (σ := Int32) (fun n i x => LX0_greatestPurse_23 n x (nI i) S) _ (fun i x => x = gpM (S 131) (-9999) i) (vS' V) ?_ ?_ FU 1 (S 131 8) (by omega) (by unfold FU; omega) e8
      · intro n x hI
        subst hI
        simp (disch := omega) only [LX0_greatestPurse_23, KX0_greatestPurse_23, gm_v h0 hv, hS, nI_leE, nI_ltE, nI_eqE, nI_m1, c0a, c0b, c0c, c0d, c0e, c1a, c1b, c1c, c1d, c1e, c2a, c2b, c2c, c2d, c2e, c3a, c3b, c3c, c3d, c3e, c4a, c4b, c4c, c4d, c4e, c5a, c5b, c5c, c5d, c5e, c6a, c6b, c6c, c6d, c6e, c7a, c7b, c7c, c7d, c7e, c8a, c8b, c8c, c8d, c8e, c9a, c9b, c9c, c9d, c9e, c10a, c10b, c10c, c10d, c10e, c12a, c12b, c12c, c12d, c12e, c14a, c14b, c14c, c14d, c14e, c16a, c16b, c16c, c16d, c16e, c20a, c20b, c20c, c20d, c20e, c30a, c30b, c30c, c30d, c30e, c32a, c32b, c32c, c32d, c32e, c36a, c36b, c36c, c36d, c36e, c40a, c40b, c40c, c40d, c40e, c41a, c41b, c41c, c41d, c41e, c42a, c42b, c42c, c42d, c42e, c43a, c43b, c43c, c43d, c43e, c45a, c45b, c45c, c45d, c45e, c47a, c47b, c47c, c47d, c47e, c48a, c48b, c48c, c48d, c48e, c57a, c57b, c57c, c57d, c57e, c59a, c59b, c59c, c59d, c59e, c60a, c60b, c60c, c60d, c60e, c61a, c61b, c61c, c61d, c61e, c62a, c62b, c62c, c62d, c62e, c64a, c64b, c64c, c64d, c64e, c96a, c96b, c96c, c96d, c96e, c97a, c97b, c97c, c97d, c97e, c98a, c98b, c98c, c98d, c98e, c99a, c99b, c99c, c99d, c99e, c100a, c100b, c100c, c100d, c100e, c122a, c122b, c122c, c122d, c122e, c700a, c700b, c700c, c700d, c700e, c4240a, c4240b, c4240c, c4240d, c4240e, c9999a, c9999b, c9999c, c9999d, c9999e, c100000a, c100000b, c100000c, c100000d, c100000e, c1000000a, c1000000b, c1000000c, c1000000d, c1000000e, if_T, ri_s]
        exact ok_some rfl
      · intro n i x hi hI ih
        subst hI
        simp (disch := omega) only [LX0_greatestPurse_23, KX0_greatestPurse_23, gm_v h0 hv, hS, nI_leE, nI_ltE, nI_eqE, nI_m1, c0a, c0b, c0c, c0d, c0e, c1a, c1b, c1c, c1d, c1e, c2a, c2b, c2c, c2d, c2e, c3a, c3b, c3c, c3d, c3e, c4a, c4b, c4c, c4d, c4e, c5a, c5b, c5c, c5d, c5e, c6a, c6b, c6c, c6d, c6e, c7a, c7b, c7c, c7d, c7e, c8a, c8b, c8c, c8d, c8e, c9a, c9b, c9c, c9d, c9e, c10a, c10b, c10c, c10d, c10e, c12a, c12b, c12c, c12d, c12e, c14a, c14b, c14c, c14d, c14e, c16a, c16b, c16c, c16d, c16e, c20a, c20b, c20c, c20d, c20e, c30a, c30b, c30c, c30d, c30e, c32a, c32b, c32c, c32d, c32e, c36a, c36b, c36c, c36d, c36e, c40a, c40b, c40c, c40d, c40e, c41a, c41b, c41c, c41d, c41e, c42a, c42b, c42c, c42d, c42e, c43a, c43b, c43c, c43d, c43e, c45a, c45b, c45c, c45d, c45e, c47a, c47b, c47c, c47d, c47e, c48a, c48b, c48c, c48d, c48e, c57a, c57b, c57c, c57d, c57e, c59a, c59b, c59c, c59d, c59e, c60a, c60b, c60c, c60d, c60e, c61a, c61b, c61c, c61d, c61e, c62a, c62b, c62c, c62d, c62e, c64a, c64b, c64c, c64d, c64e, c96a, c96b, c96c, c96d, c96e, c97a, c97b, c97c, c97d, c97e, c98a, c98b, c98c, c98d, c98e, c99a, c99b, c99c, c99d, c99e, c100a, c100b, c100c, c100d, c100e, c122a, c122b, c122c, c122d, c122e, c700a, c700b, c700c, c700d, c700e, c4240a, c4240b, c4240c, c4240d, c4240e, c9999a, c9999b, c9999c, c9999d, c9999e, c100000a, c100000b, c100000c, c100000d, c100000e, c1000000a, c1000000b, c1000000c, c1000000d, c1000000e, if_F, bd_s, bv_s, bt_s, bt_x, vl_s, pf_s, ri_s, rz_0, rz_1, tri_s, trz_0, trz_1, trx_s, pz_0, pz_1, nI_add, pk_mul, up_at, la2, la5, la6, la8, la14, la62, la64, la98, la700, ra1, ra2, ra6, ra8, ra12, ra20, ra36, ra48, lm6, lm8, lm10, lm100, lm106, rm6, rm8, rm10, rm100, rm106, rd131, rd132, rd133, rd134, rd135, rd136, rd131_0, rd131_1, rd131_8]
        exact ih _ rfl
    obtain ⟨b, e, q⟩ := this
    rw [e, q]
theorem A_larks (a1 a2 a3 : Int32) : Agr 2 (fX9_larks a1 a2 a3) (fX10_larks a1 a2 a3) := by
  refine look (fun S V v d hR => ?_)
  have hV := hR.vk
  have hS6 := hV.2.1
  have hF8 := hV.1
  have hv := hR.hv
  rcases arg2 a3 (lo := 0) (hi := 2) (by decide) (by decide) with ⟨w, -, hw, rfl⟩ | h3
  · have needs : fX9_needWhat (nI w) 2 S = some (.inl 0, S) := C_nW_t (m := 2) hw (by decide)
    rcases arg2 a2 (lo := 0) (hi := 60) (by decide) (by decide) with ⟨n, -, hn, rfl⟩ | h2
    · generalize hr0 : (lks V (a1, S 37) n).2 = rr0
      have rok : ROk V (10000 + n) rr0 := by rw [← hr0]; exact lks_ok hV (s := (a1, S 37)) hR.rok n (by omega)
      refine ⟨.inl (if w = 0 then nI (knT rr0 (vS' V)) else if w = 1 then rr0 1 - S 37 1 else if vS' V = 0 then 0 else gpM rr0 (-9999) (vS' V)), ?_, fun T hT => ?_⟩
      · obtain ⟨S1, e1, b1, b2, b3, b4, b5⟩ := C_begin (a2 := 37) hR.C rfl (by decide) hR.rok (by decide)
        obtain ⟨S2, e2, g1, g2, g3⟩ := C_larks (n := n) (sd := a1) b2.1 b2.2.1 b2.2.2.1 hn (by omega)
        have a2' : rg V (S2 131) rr0 := by rw [g1, ← hr0]; exact (rg_lks hV (b1.w hV) b2.2.2.1 n (by omega)).2
        have ok2 : ROk V (10000 + n) (S2 131) := rg_ROk hV a2'.sm rok
        have hC2 := b2.1.fr g3
        have k2 : cK S S2 := cFr.k (fun a h1 h2 h3 h4 h5 => (g3 a h1 h2 h3 h4 h5).trans (b5 a h1 h2 h3 h4 h5))
        unfold fX9_larks
        rw [needs, bt_s, show (0 : Int32) = nI 0 from rfl, C_nH_t (by omega) hn, bt_s, gm_v hR.2.1 hv, e1, bv_s, e2, bv_s]
        simp (disch := omega) only [nI_leE, nI_ltE, nI_eqE, nI_m1, c0a, c0b, c0c, c0d, c0e, c1a, c1b, c1c, c1d, c1e, c2a, c2b, c2c, c2d, c2e, c3a, c3b, c3c, c3d, c3e, c4a, c4b, c4c, c4d, c4e, c5a, c5b, c5c, c5d, c5e, c6a, c6b, c6c, c6d, c6e, c7a, c7b, c7c, c7d, c7e, c8a, c8b, c8c, c8d, c8e, c9a, c9b, c9c, c9d, c9e, c10a, c10b, c10c, c10d, c10e, c12a, c12b, c12c, c12d, c12e, c14a, c14b, c14c, c14d, c14e, c16a, c16b, c16c, c16d, c16e, c20a, c20b, c20c, c20d, c20e, c30a, c30b, c30c, c30d, c30e, c32a, c32b, c32c, c32d, c32e, c36a, c36b, c36c, c36d, c36e, c40a, c40b, c40c, c40d, c40e, c41a, c41b, c41c, c41d, c41e, c42a, c42b, c42c, c42d, c42e, c43a, c43b, c43c, c43d, c43e, c45a, c45b, c45c, c45d, c45e, c47a, c47b, c47c, c47d, c47e, c48a, c48b, c48c, c48d, c48e, c57a, c57b, c57c, c57d, c57e, c59a, c59b, c59c, c59d, c59e, c60a, c60b, c60c, c60d, c60e, c61a, c61b, c61c, c61d, c61e, c62a, c62b, c62c, c62d, c62e, c64a, c64b, c64c, c64d, c64e, c96a, c96b, c96c, c96d, c96e, c97a, c97b, c97c, c97d, c97e, c98a, c98b, c98c, c98d, c98e, c99a, c99b, c99c, c99d, c99e, c100a, c100b, c100c, c100d, c100e, c122a, c122b, c122c, c122d, c122e, c700a, c700b, c700c, c700d, c700e, c4240a, c4240b, c4240c, c4240d, c4240e, c9999a, c9999b, c9999c, c9999d, c9999e, c100000a, c100000b, c100000c, c100000d, c100000e, c1000000a, c1000000b, c1000000c, c1000000d, c1000000e]
        by_cases c0 : w = 0
        · rw [if_pos c0, C_knT hC2 g2 ok2, if_pos c0, rg_knT hV a2' _ (Nat.le_refl _)]; exact ok_some ⟨rfl, k2⟩
        · rw [if_neg c0]
          by_cases c1 : w = 1
          · rw [if_pos c1, rd131_1, rd37_1, if_neg c0, if_pos c1, a2' 1 (rl_a (by omega) (by omega) (by omega)), show S2 37 = S 37 from k2 37 (by decide) (by decide) (by decide) (by decide) (by decide)]
            exact ok_some ⟨rfl, k2⟩
          · rw [if_neg c1, C_gp hC2 g2 ok2, if_neg c0, if_neg c1, rg_gpM hV a2' _ (Nat.le_refl _)]; exact ok_some ⟨rfl, k2⟩
      · have hT' := hR.c hT
        obtain ⟨T1, e1, e1', m1, m2, m3, m4, m5⟩ := M_lay hT'
        have m2' : mr T1 = mr S := by rw [m2, hT.mr]
        have was : T1 142 35 = S 37 1 := by rw [show T1 142 35 = mr T1 1 from rfl, m2', hR.rag 1 (rl_a (by omega) (by omega) (by omega))]
        have wF := m1.2.1
        unfold fX10_larks
        rw [pf_s, show (0 : Int64) = (nI 0).toInt64 from rfl, show (2 : Int64) = (nI 2).toInt64 from rfl, M_in_t (by omega) hw (by decide), bd_s, if_neg (by decide), show (60 : Int64) = (nI 60).toInt64 from rfl, M_in_t (by omega) hn (by decide), bd_s, if_neg (by decide), e1, bv_s, pf_s, vl_s, up_off (by decide), was]
        generalize hT2 : up T1 142 56 a1 = T2
        have t2 : ∀ a, a ≠ 142 → T2 a = T1 a := fun a ha => by rw [← hT2, up_ne ha]
        have t2j : ∀ j, j ≠ 56 → T2 142 j = T1 142 j := fun j hj => by rw [← hT2, up_off hj]
        have t2m : mr T2 = mr T1 := by rw [← hT2, mr_up (by omega) (by omega)]
        -- what stays while hours go: as mFr, and the seed's slot
        refine ok_for (fun k i W => LX10_larks_64 k (nI n) (nI w) (S 37 1) (nI i) W) _ (fun i W => W 142 56 = (lks V (a1, mr T1) i).1 ∧ mr W = (lks V (a1, mr T1) i).2 ∧ mFr T1 (up W 142 56 (T1 142 56))) n ?_ ?_ FU 0 T2 (by omega) (by unfold FU; omega) ⟨by rw [← hT2, up_at]; rfl, t2m, ?_⟩
        · intro k W hW
          obtain ⟨w1, w2, w3⟩ := hW
          have aW : rg V (mr W) rr0 := by
            rw [w2, ← hr0]
            refine (rg_lks hV ?_ m3 n (by omega)).2
            rw [m2']; exact hR.rag.sm
          have okW : ROk V (10000 + n) (mr W) := rg_ROk hV aW.sm rok
          have cW : ∀ a, (a < 142 ∨ 168 < a ∨ (142 < a ∧ a < 158) ∨ a = 163 ∨ a = 164) → W a = T1 a := fun a ha => by rw [← w3.1 a ha, up_ne (by omega)]
          have jW : ∀ j, j ≠ 34 → j ≠ 35 → j ≠ 56 → W 142 j = T1 142 j := fun j h1 h2 h3 => by rw [← w3.2 j h1 h2, up_off h3]
          have hS := m1.2.2.1
          have eS : W 145 2 = nI (vS' V) := by rw [cW 145 (by omega)]; exact hS
          simp (disch := omega) only [LX10_larks_64, KX10_larks_64, nI_leE, nI_ltE, nI_eqE, nI_m1, c0a, c0b, c0c, c0d, c0e, c1a, c1b, c1c, c1d, c1e, c2a, c2b, c2c, c2d, c2e, c3a, c3b, c3c, c3d, c3e, c4a, c4b, c4c, c4d, c4e, c5a, c5b, c5c, c5d, c5e, c6a, c6b, c6c, c6d, c6e, c7a, c7b, c7c, c7d, c7e, c8a, c8b, c8c, c8d, c8e, c9a, c9b, c9c, c9d, c9e, c10a, c10b, c10c, c10d, c10e, c12a, c12b, c12c, c12d, c12e, c14a, c14b, c14c, c14d, c14e, c16a, c16b, c16c, c16d, c16e, c20a, c20b, c20c, c20d, c20e, c30a, c30b, c30c, c30d, c30e, c32a, c32b, c32c, c32d, c32e, c36a, c36b, c36c, c36d, c36e, c40a, c40b, c40c, c40d, c40e, c41a, c41b, c41c, c41d, c41e, c42a, c42b, c42c, c42d, c42e, c43a, c43b, c43c, c43d, c43e, c45a, c45b, c45c, c45d, c45e, c47a, c47b, c47c, c47d, c47e, c48a, c48b, c48c, c48d, c48e, c57a, c57b, c57c, c57d, c57e, c59a, c59b, c59c, c59d, c59e, c60a, c60b, c60c, c60d, c60e, c61a, c61b, c61c, c61d, c61e, c62a, c62b, c62c, c62d, c62e, c64a, c64b, c64c, c64d, c64e, c96a, c96b, c96c, c96d, c96e, c97a, c97b, c97c, c97d, c97e, c98a, c98b, c98c, c98d, c98e, c99a, c99b, c99c, c99d, c99e, c100a, c100b, c100c, c100d, c100e, c122a, c122b, c122c, c122d, c122e, c700a, c700b, c700c, c700d, c700e, c4240a, c4240b, c4240c, c4240d, c4240e, c9999a, c9999b, c9999c, c9999d, c9999e, c100000a, c100000b, c100000c, c100000d, c100000e, c1000000a, c1000000b, c1000000c, c1000000d, c1000000e, if_T, bd_s, bv_s, bt_s, bt_x, vl_s, pf_s, ri_s, rz_0, rz_1, tri_s, trz_0, trz_1, trx_s, pz_0, pz_1, nI_add, pk_mul, up_at, la2, la5, la6, la8, la14, la62, la64, la98, la700, ra1, ra2, ra6, ra8, ra12, ra20, ra36, ra48, lm6, lm8, lm10, lm100, lm106, rm6, rm8, rm10, rm100, rm106, rd145, rd146, rd147, rd148, rd149, rd150, rd151, rd152, rd153, rd154, rd155, rd156, rd157, rd158, rd159, rd160, rd161, rd162, rd163, rd164, rd165, rd166, rd167, rd168, rd169, rd170, rd171, rd172, rd173, rd174, rd175, rd176, rd177, rd178, rd179, rd180, rd181, rd182, rd183, rd184, rd185, rd145_0, rd145_2, rd145_3, rd145_4, rd145_5, rd145_6, rd145_7, rd156_0, rd156_1, rd166_0, rd178_0, eS]
          have v35 : W 142 35 = rr0 1 := by rw [show W 142 35 = mr W 1 from rfl, aW 1 (rl_a (by omega) (by omega) (by omega))]
          rw [v35]
          have fin2 : ∀ x0 : Int32, ok (LX10_larks_117 FU (nI w) (rr0 1 - S 37 1) 0 x0 0 W) (fun q => q.1 = (if w = 0 then nI (knT rr0 (vS' V)) else if w = 1 then rr0 1 - S 37 1 else gpM rr0 x0 (vS' V)) ∧ mK T q.2 ∧ q.2 142 3 = 0) := by
            intro x0
            refine ok_for (σ := Int32 × Int32) (fun m i Z => LX10_larks_117 m (nI w) (rr0 1 - S 37 1) Z.1 Z.2 (nI i) W) _ (fun i Z => Z.1 = nI (knT rr0 i) ∧ Z.2 = gpM rr0 x0 i) (vS' V) ?_ ?_ FU 0 (0, x0) (by omega) (by unfold FU; omega) ⟨rfl, rfl⟩
            · intro m Z hZ
              obtain ⟨T3, e3, u1, u2, u3⟩ := M_unpack (S := W) (a := 169) (f := 0) (by omega) (by decide)
              have e169 : W 169 = pkd (up T 142 3 0) 169 0 := by rw [cW 169 (by omega), e1', row_at]
              have mk : mK T T3 := by
                refine mK0.tr ⟨fun i hi => ?_, fun a ha => ?_, fun j hj => ?_⟩
                · rw [u1 i hi, e169]
                  unfold pkd
                  rw [if_pos (by omega), show 0 + i - 0 = i by omega]
                · rw [u2 a (by omega) (by omega), cW a (by omega), e1', row_ne (by omega)]
                · rw [u3 j (by omega) (by omega), jW j (by omega) (by omega) (by omega), e1', row_ne (by decide)]
              have e3c : T3 142 3 = 0 := by rw [u3 3 (by decide) (by decide), jW 3 (by decide) (by decide) (by decide), m5]
              have e3' : fX10_unpack 169 0 W = some T3 := e3
              simp (disch := omega) only [LX10_larks_117, KX10_larks_117, rd145, rd146, rd147, rd148, rd149, rd150, rd151, rd152, rd153, rd154, rd155, rd156, rd157, rd158, rd159, rd160, rd161, rd162, rd163, rd164, rd165, rd166, rd167, rd168, rd169, rd170, rd171, rd172, rd173, rd174, rd175, rd176, rd177, rd178, rd179, rd180, rd181, rd182, rd183, rd184, rd185, rd145_0, rd145_2, rd145_3, rd145_4, rd145_5, rd145_6, rd145_7, rd156_0, rd156_1, rd166_0, rd178_0, eS, nI_leE, nI_ltE, nI_eqE, nI_m1, c0a, c0b, c0c, c0d, c0e, c1a, c1b, c1c, c1d, c1e, c2a, c2b, c2c, c2d, c2e, c3a, c3b, c3c, c3d, c3e, c4a, c4b, c4c, c4d, c4e, c5a, c5b, c5c, c5d, c5e, c6a, c6b, c6c, c6d, c6e, c7a, c7b, c7c, c7d, c7e, c8a, c8b, c8c, c8d, c8e, c9a, c9b, c9c, c9d, c9e, c10a, c10b, c10c, c10d, c10e, c12a, c12b, c12c, c12d, c12e, c14a, c14b, c14c, c14d, c14e, c16a, c16b, c16c, c16d, c16e, c20a, c20b, c20c, c20d, c20e, c30a, c30b, c30c, c30d, c30e, c32a, c32b, c32c, c32d, c32e, c36a, c36b, c36c, c36d, c36e, c40a, c40b, c40c, c40d, c40e, c41a, c41b, c41c, c41d, c41e, c42a, c42b, c42c, c42d, c42e, c43a, c43b, c43c, c43d, c43e, c45a, c45b, c45c, c45d, c45e, c47a, c47b, c47c, c47d, c47e, c48a, c48b, c48c, c48d, c48e, c57a, c57b, c57c, c57d, c57e, c59a, c59b, c59c, c59d, c59e, c60a, c60b, c60c, c60d, c60e, c61a, c61b, c61c, c61d, c61e, c62a, c62b, c62c, c62d, c62e, c64a, c64b, c64c, c64d, c64e, c96a, c96b, c96c, c96d, c96e, c97a, c97b, c97c, c97d, c97e, c98a, c98b, c98c, c98d, c98e, c99a, c99b, c99c, c99d, c99e, c100a, c100b, c100c, c100d, c100e, c122a, c122b, c122c, c122d, c122e, c700a, c700b, c700c, c700d, c700e, c4240a, c4240b, c4240c, c4240d, c4240e, c9999a, c9999b, c9999c, c9999d, c9999e, c100000a, c100000b, c100000c, c100000d, c100000e, c1000000a, c1000000b, c1000000c, c1000000d, c1000000e, if_T, e3', bd_s, bv_s, bt_s, bt_x, vl_s, pf_s, ri_s, rz_0, rz_1, tri_s, trz_0, trz_1, trx_s, pz_0, pz_1, nI_add, pk_mul, up_at, la2, la5, la6, la8, la14, la62, la64, la98, la700, ra1, ra2, ra6, ra8, ra12, ra20, ra36, ra48, lm6, lm8, lm10, lm100, lm106, rm6, rm8, rm10, rm100, rm106]
              rw [hZ.1, hZ.2]
              by_cases c0 : w = 0
              · rw [if_pos c0, if_pos c0]; exact ok_some ⟨rfl, mk, e3c⟩
              · rw [if_neg c0, if_neg c0]
                by_cases c1 : w = 1
                · rw [if_pos c1, if_pos c1]; exact ok_some ⟨rfl, mk, e3c⟩
                · rw [if_neg c1, if_neg c1]; exact ok_some ⟨rfl, mk, e3c⟩
            · intro m i Z hi hZ ih2
              obtain ⟨k', hk, ek⟩ := rok.2.1 i hi
              have hk8 : k' < 256 := Nat.lt_of_lt_of_le hk (Nat.pow_le_pow_right (by decide) hF8 : 2 ^ vF V ≤ 2 ^ 8)
              have e158 : W 158 i = nI k' := by rw [← mr_k (S := W) (q := i) (by omega), aW _ (rl_a (by omega) (by omega) (by omega)), ek]
              have e159 : W 159 i = rr0 (8 + i) := by rw [← mr_p (S := W) (q := i) (by omega), aW _ (rl_a (by omega) (by omega) (by omega))]
              simp (disch := omega) only [LX10_larks_117, KX10_larks_117, rd145, rd146, rd147, rd148, rd149, rd150, rd151, rd152, rd153, rd154, rd155, rd156, rd157, rd158, rd159, rd160, rd161, rd162, rd163, rd164, rd165, rd166, rd167, rd168, rd169, rd170, rd171, rd172, rd173, rd174, rd175, rd176, rd177, rd178, rd179, rd180, rd181, rd182, rd183, rd184, rd185, rd145_0, rd145_2, rd145_3, rd145_4, rd145_5, rd145_6, rd145_7, rd156_0, rd156_1, rd166_0, rd178_0, eS, nI_leE, nI_ltE, nI_eqE, nI_m1, c0a, c0b, c0c, c0d, c0e, c1a, c1b, c1c, c1d, c1e, c2a, c2b, c2c, c2d, c2e, c3a, c3b, c3c, c3d, c3e, c4a, c4b, c4c, c4d, c4e, c5a, c5b, c5c, c5d, c5e, c6a, c6b, c6c, c6d, c6e, c7a, c7b, c7c, c7d, c7e, c8a, c8b, c8c, c8d, c8e, c9a, c9b, c9c, c9d, c9e, c10a, c10b, c10c, c10d, c10e, c12a, c12b, c12c, c12d, c12e, c14a, c14b, c14c, c14d, c14e, c16a, c16b, c16c, c16d, c16e, c20a, c20b, c20c, c20d, c20e, c30a, c30b, c30c, c30d, c30e, c32a, c32b, c32c, c32d, c32e, c36a, c36b, c36c, c36d, c36e, c40a, c40b, c40c, c40d, c40e, c41a, c41b, c41c, c41d, c41e, c42a, c42b, c42c, c42d, c42e, c43a, c43b, c43c, c43d, c43e, c45a, c45b, c45c, c45d, c45e, c47a, c47b, c47c, c47d, c47e, c48a, c48b, c48c, c48d, c48e, c57a, c57b, c57c, c57d, c57e, c59a, c59b, c59c, c59d, c59e, c60a, c60b, c60c, c60d, c60e, c61a, c61b, c61c, c61d, c61e, c62a, c62b, c62c, c62d, c62e, c64a, c64b, c64c, c64d, c64e, c96a, c96b, c96c, c96d, c96e, c97a, c97b, c97c, c97d, c97e, c98a, c98b, c98c, c98d, c98e, c99a, c99b, c99c, c99d, c99e, c100a, c100b, c100c, c100d, c100e, c122a, c122b, c122c, c122d, c122e, c700a, c700b, c700c, c700d, c700e, c4240a, c4240b, c4240c, c4240d, c4240e, c9999a, c9999b, c9999c, c9999d, c9999e, c100000a, c100000b, c100000c, c100000d, c100000e, c1000000a, c1000000b, c1000000c, c1000000d, c1000000e, if_F, e158, M_bits, bd_s, bv_s, bt_s, bt_x, vl_s, pf_s, ri_s, rz_0, rz_1, tri_s, trz_0, trz_1, trx_s, pz_0, pz_1, nI_add, pk_mul, up_at, la2, la5, la6, la8, la14, la62, la64, la98, la700, ra1, ra2, ra6, ra8, ra12, ra20, ra36, ra48, lm6, lm8, lm10, lm100, lm106, rm6, rm8, rm10, rm100, rm106, e159]
              refine ih2 (_, _) ⟨?_, ?_⟩
              · show Z.1 + nI (pop k') = nI (knT rr0 i + pop (rr0 (2 + i)).toNatClampNeg)
                rw [hZ.1, nI_add, ek, nI_clamp (by omega)]
              · show (if Z.2 < rr0 (8 + i) then rr0 (8 + i) else Z.2) = _
                rw [hZ.2]; rfl
          unfold BX10_larks_112
          have mt : ∀ (x0 : Int32), (w ≤ 1 ∨ gpM rr0 x0 (vS' V) = (if vS' V = 0 then 0 else gpM rr0 (-9999) (vS' V))) → ok (LX10_larks_117 FU (nI w) (rr0 1 - S 37 1) 0 x0 0 W) (fun q => mK T q.2 ∧ q.2 142 3 = 0 ∧ q.1 = if w = 0 then nI (knT rr0 (vS' V)) else if w = 1 then rr0 1 - S 37 1 else if vS' V = 0 then 0 else gpM rr0 (-9999) (vS' V)) := by
            intro x0 hx
            refine ok_mono (fin2 x0) (fun q hq => ⟨hq.2.1, hq.2.2, ?_⟩)
            rw [hq.1]
            by_cases c0 : w = 0
            · rw [if_pos c0, if_pos c0]
            · rw [if_neg c0, if_neg c0]
              by_cases c1 : w = 1
              · rw [if_pos c1, if_pos c1]
              · rw [if_neg c1, if_neg c1]
                rcases hx with hx | hx
                · omega
                · exact hx
          by_cases c : vS' V = 0
          · rw [if_pos c]
            exact mt 0 (Or.inr (by rw [if_pos c, c]; rfl))
          · rw [if_neg c]
            exact mt (-9999) (Or.inr (by rw [if_neg c]))
        · intro k i W hi hW ih
          obtain ⟨w1, w2, w3⟩ := hW
          have ro := lks_ok hV (s := (a1, mr T1)) m3 i (by omega)
          have cW : ∀ a, (a < 142 ∨ 168 < a ∨ (142 < a ∧ a < 158) ∨ a = 163 ∨ a = 164) → W a = T1 a := fun a ha => by rw [← w3.1 a ha, up_ne (by omega)]
          have jW : ∀ j, j ≠ 34 → j ≠ 35 → j ≠ 56 → W 142 j = T1 142 j := fun j h1 h2 h3 => by rw [← w3.2 j h1 h2, up_off h3]
          have hMW : VM V W := m1.go (fun a ha => cW a (by omega))
          obtain ⟨U, eU, u1, u2, u3, u4⟩ := M_lark hMW (by rw [w2]; exact ro) (by omega)
          rw [w1, w2] at u1 u2
          have hMU : VM V U := hMW.go (fun a ha => u3 a (by omega) (by omega))
          obtain ⟨X, eX, x1, -, -, x4⟩ := M_hour hMU (by rw [u2]; exact lk1_ok hV ro) (by omega) (by rw [u4 41 (by decide), jW 41 (by decide) (by decide) (by decide)]; exact m4)
          simp (disch := omega) only [LX10_larks_64, KX10_larks_64, nI_leE, nI_ltE, nI_eqE, nI_m1, c0a, c0b, c0c, c0d, c0e, c1a, c1b, c1c, c1d, c1e, c2a, c2b, c2c, c2d, c2e, c3a, c3b, c3c, c3d, c3e, c4a, c4b, c4c, c4d, c4e, c5a, c5b, c5c, c5d, c5e, c6a, c6b, c6c, c6d, c6e, c7a, c7b, c7c, c7d, c7e, c8a, c8b, c8c, c8d, c8e, c9a, c9b, c9c, c9d, c9e, c10a, c10b, c10c, c10d, c10e, c12a, c12b, c12c, c12d, c12e, c14a, c14b, c14c, c14d, c14e, c16a, c16b, c16c, c16d, c16e, c20a, c20b, c20c, c20d, c20e, c30a, c30b, c30c, c30d, c30e, c32a, c32b, c32c, c32d, c32e, c36a, c36b, c36c, c36d, c36e, c40a, c40b, c40c, c40d, c40e, c41a, c41b, c41c, c41d, c41e, c42a, c42b, c42c, c42d, c42e, c43a, c43b, c43c, c43d, c43e, c45a, c45b, c45c, c45d, c45e, c47a, c47b, c47c, c47d, c47e, c48a, c48b, c48c, c48d, c48e, c57a, c57b, c57c, c57d, c57e, c59a, c59b, c59c, c59d, c59e, c60a, c60b, c60c, c60d, c60e, c61a, c61b, c61c, c61d, c61e, c62a, c62b, c62c, c62d, c62e, c64a, c64b, c64c, c64d, c64e, c96a, c96b, c96c, c96d, c96e, c97a, c97b, c97c, c97d, c97e, c98a, c98b, c98c, c98d, c98e, c99a, c99b, c99c, c99d, c99e, c100a, c100b, c100c, c100d, c100e, c122a, c122b, c122c, c122d, c122e, c700a, c700b, c700c, c700d, c700e, c4240a, c4240b, c4240c, c4240d, c4240e, c9999a, c9999b, c9999c, c9999d, c9999e, c100000a, c100000b, c100000c, c100000d, c100000e, c1000000a, c1000000b, c1000000c, c1000000d, c1000000e, if_F, eU, eX, bd_s, bv_s, bt_s, bt_x, vl_s, pf_s, ri_s, rz_0, rz_1, tri_s, trz_0, trz_1, trx_s, pz_0, pz_1, nI_add, pk_mul, up_at, la2, la5, la6, la8, la14, la62, la64, la98, la700, ra1, ra2, ra6, ra8, ra12, ra20, ra36, ra48, lm6, lm8, lm10, lm100, lm106, rm6, rm8, rm10, rm100, rm106]
          refine ih X ⟨?_, ?_, ?_, ?_⟩
          · rw [x4.2 56 (by decide) (by decide), u1]; rfl
          · rw [x1, u2]; rfl
          · intro a ha
            rw [up_ne (by omega), x4.1 a ha, u3 a (by omega) (by omega), cW a ha]
          · intro j h1 h2
            by_cases c : j = 56
            · subst c; rw [up_at]
            · rw [up_off c, x4.2 j h1 h2, u4 j c, jW j h1 h2 c]
        · refine ⟨fun a ha => by rw [up_ne (by omega), t2 a (by omega)], fun j h1 h2 => ?_⟩
          by_cases c : j = 56
          · subst c; rw [up_at]
          · rw [up_off c, t2j j c]
    · refine ⟨.inr 2, ?_, fun T hT => ?_⟩
      · unfold fX9_larks
        rw [needs, bt_s, show (0 : Int32) = nI 0 from rfl, C_nH_f h2, bt_x]
        exact ok_some ⟨rfl, cK.rf⟩
      · unfold fX10_larks
        rw [pf_s, show (0 : Int64) = (nI 0).toInt64 from rfl, show (2 : Int64) = (nI 2).toInt64 from rfl, M_in_t (by omega) hw (by decide), bd_s, if_neg (by decide), show (60 : Int64) = (nI 60).toInt64 from rfl, M_in_f (by decide) h2 (by decide), bd_s, if_pos rfl, m_fail]
        exact ok_some ⟨mKx, Or.inr ⟨rfl, rfl⟩⟩
  · refine ⟨.inr 1, ?_, fun T hT => ?_⟩
    · unfold fX9_larks
      rw [show fX9_needWhat a3 2 S = some (.inr 1, S) from C_nW_f (m := 2) (by decide) h3, bt_x]
      exact ok_some ⟨rfl, cK.rf⟩
    · unfold fX10_larks
      rw [pf_s, show (0 : Int64) = (nI 0).toInt64 from rfl, show (2 : Int64) = (nI 2).toInt64 from rfl, M_in_f (by decide) h3 (by decide), bd_s, if_pos rfl, m_fail]
      exact ok_some ⟨mKx, Or.inl ⟨rfl, rfl⟩⟩
