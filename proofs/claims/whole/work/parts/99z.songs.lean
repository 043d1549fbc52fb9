section IJ
variable {p : Program} {l : Launch} {e : Env} {s : State} {m : MethodId} {args : Array Value} {below : List Frame} {meth : Method} {c : Code} {G : Gt}
theorem kIX9_15 : CIw RX9 15 yX8_init cX8_init 2 0 := ⟨wd35, wd36, wd2, wd37, rfl, by decide +kernel⟩
theorem kIX9_25 : CIw RX9 25 yX6_init cX6_init 3 2 := ⟨wd153, wd154, wd4, wd155, rfl, by decide +kernel⟩
theorem kIX9_34 : CInw yX4_init cX4_init 1 0 := ⟨wd235, wd7, wd236, rfl, by decide +kernel⟩
theorem kIX9_44 : CIw RX9 44 yX0_init cX0_init 2 1 := ⟨wd279, wd280, wd8, wd281, rfl, by decide +kernel⟩
theorem kIX9_53 : CIw RX9 53 yX1_init cX1_init 2 1 := ⟨wd311, wd312, wd9, wd313, rfl, by decide +kernel⟩
theorem kIX9_62 : CInw yX5_init cX5_init 1 0 := ⟨wd340, wd10, wd341, rfl, by decide +kernel⟩
set_option maxHeartbeats 4000000 in
set_option maxRecDepth 20000 in
theorem sciX9_0 (C : Cx p s m args meth c cX9_init 1 RX9 G) (hJ : Kd G s) (hr : meth.sig.returnType = none) (hin : meth.name = "<init>") {E : Nat → va_E} (hE : ∀ j, 0 < j → j < 142 → E j = cE G j (S0 j)) {H : Heap} {locs : List Loc} {ls : Array Slot} (hP : Yw G (uE E 0 (.inr (9, [.null, .int 0, .int 0, .null, .null, .null, .null, .null, .int 0, .null, .null, .null]))) 1 H) (hS : va_S (Ab G) s.heap H locs) (hl : lv_has ls 1 [(0, .ref (gR G 0))]) : W p l e (rmL 4 141 13867) s m args below meth c H locs 0 0 (MQ below (QN G (uE E 0 (cE G 0 (S0 0))) 142) args s 141 13867 (Ab G)) (F0 m 0 ls []) := by
  have hx := C.1.1
  have hb := C.1.2.1
  have hG := hJ.1
  refine lv_aload_n hx hb dX9_init_0 rfl (lv_at hl 0 rfl) ?_
  refine N_obj C hl.1 wd30 wd31 wd32 (Nat.le_of_ble_eq_true rfl) (Nat.le_of_ble_eq_true rfl) dX9_init_1 ?_
  refine lv_aload_n hx hb dX9_init_4 rfl (lv_at hl 0 rfl) ?_
  refine lv_sipush (v := 700) hx hb dX9_init_5 rfl ?_
  refine N_newB (E := (uE E 0 (.inr (9, [.null, .int 0, .int 0, .null, .null, .null, .null, .null, .int 0, .null, .null, .null])))) C hG hP hS wd64 (((uE_ne (by decide)).trans (hE 1 (by decide) (by decide))).trans rfl) (by decide) rfl (Nat.le_of_ble_eq_true rfl) (Nat.le_of_ble_eq_true rfl) (Nat.le_of_ble_eq_true rfl) dX9_init_8 (fun H hP hS => ?_)
  refine N_put (E := (uE E 0 (.inr (9, [.null, .int 0, .int 0, .null, .null, .null, .null, .null, .int 0, .null, .null, .null])))) (ty := .array .byte) (j := 0) (k := 0) C hG hP hS uX9 tyX9 tyX9_ok nmX9 rfl (by decide) wd347 rfl (Or.inr ⟨rfl, hin, rfl⟩) (by decide +kernel) rfl rfl (by decide) uE_at (Nat.le_of_ble_eq_true rfl) dX9_init_10 (fun H locs hP hS => ?_)
  rw [uE2] at hP
  replace hP : Yw G (uE E 0 (.inr (9, [.ref (gR G 1), .int 0, .int 0, .null, .null, .null, .null, .null, .int 0, .null, .null, .null]))) 2 H := hP
  refine lv_aload_n hx hb dX9_init_13 rfl (lv_at hl 0 rfl) ?_
  refine N_new (E := (uE E 0 (.inr (9, [.ref (gR G 1), .int 0, .int 0, .null, .null, .null, .null, .null, .int 0, .null, .null, .null])))) (ci := 8) (fs := [.int 0, .int 0, .int 0, .null, .null, .null, .null, .null, .null, .null, .null, .null, .null, .null]) C hG hP hS uX8 tyX8 tyX8_ok rfl wd33 wd34 wd2 (fun j hj => by match j, hj with | 0, _ => rfl | 1, _ => rfl | 2, _ => rfl | 3, _ => rfl | 4, _ => rfl | 5, _ => rfl | 6, _ => rfl | 7, _ => rfl | 8, _ => rfl | 9, _ => rfl | 10, _ => rfl | 11, _ => rfl | 12, _ => rfl | 13, _ => rfl | (z + 14), h => exact absurd h (by omega)) (Nat.le_of_ble_eq_true rfl) (Nat.le_of_ble_eq_true rfl) dX9_init_14 (fun H hP hS => ?_)
  refine lv_dup hx hb dX9_init_17 rfl ?_
  refine N_ci (k := 2) (rest := [.ref (gR G 2), .ref (gR G 0)]) (As := []) C hG hP hS (ciX8_2 l G (uE E 0 (.inr (9, [.ref (gR G 1), .int 0, .int 0, .null, .null, .null, .null, .null, .int 0, .null, .null, .null]))) (fun j h1 h2 => (uE_ne (by omega)).trans (hE j (by omega) (by omega)))) kIX9_15 hl.1 ⟨by decide, by decide⟩ rfl rfl (Nat.le_of_ble_eq_true rfl) dX9_init_18 ⟨(Nat.le_of_ble_eq_true rfl), (Nat.le_of_ble_eq_true rfl)⟩ (fun H locs hP hS => ?_)
  replace hP := hP.fold ((uE_ne (by decide)).trans (hE 2 (by decide) (by decide)))
  refine N_put (E := (uE E 0 (.inr (9, [.ref (gR G 1), .int 0, .int 0, .null, .null, .null, .null, .null, .int 0, .null, .null, .null])))) (ty := .object "SongFields$Valley") (j := 3) (k := 0) C hG hP hS uX9 tyX9 tyX9_ok nmX9 rfl (by decide) wd350 rfl (Or.inl rfl) (by decide +kernel) rfl rfl (by decide) uE_at (Nat.le_of_ble_eq_true rfl) dX9_init_21 (fun H locs hP hS => ?_)
  rw [uE2] at hP
  replace hP : Yw G (uE E 0 (.inr (9, [.ref (gR G 1), .int 0, .int 0, .ref (gR G 2), .null, .null, .null, .null, .int 0, .null, .null, .null]))) 17 H := hP
  refine lv_aload_n hx hb dX9_init_24 rfl (lv_at hl 0 rfl) ?_
  refine N_new (E := (uE E 0 (.inr (9, [.ref (gR G 1), .int 0, .int 0, .ref (gR G 2), .null, .null, .null, .null, .int 0, .null, .null, .null])))) (ci := 8) (fs := [.int 0, .int 0, .int 0, .null, .null, .null, .null, .null, .null, .null, .null, .null, .null, .null]) C hG hP hS uX8 tyX8 tyX8_ok rfl wd33 wd34 wd2 (fun j hj => by match j, hj with | 0, _ => rfl | 1, _ => rfl | 2, _ => rfl | 3, _ => rfl | 4, _ => rfl | 5, _ => rfl | 6, _ => rfl | 7, _ => rfl | 8, _ => rfl | 9, _ => rfl | 10, _ => rfl | 11, _ => rfl | 12, _ => rfl | 13, _ => rfl | (z + 14), h => exact absurd h (by omega)) (Nat.le_of_ble_eq_true rfl) (Nat.le_of_ble_eq_true rfl) dX9_init_25 (fun H hP hS => ?_)
  refine lv_dup hx hb dX9_init_28 rfl ?_
  refine N_ci (k := 17) (rest := [.ref (gR G 17), .ref (gR G 0)]) (As := []) C hG hP hS (ciX8_17 l G (uE E 0 (.inr (9, [.ref (gR G 1), .int 0, .int 0, .ref (gR G 2), .null, .null, .null, .null, .int 0, .null, .null, .null]))) (fun j h1 h2 => (uE_ne (by omega)).trans (hE j (by omega) (by omega)))) kIX9_15 hl.1 ⟨by decide, by decide⟩ rfl rfl (Nat.le_of_ble_eq_true rfl) dX9_init_29 ⟨(Nat.le_of_ble_eq_true rfl), (Nat.le_of_ble_eq_true rfl)⟩ (fun H locs hP hS => ?_)
  replace hP := hP.fold ((uE_ne (by decide)).trans (hE 17 (by decide) (by decide)))
  refine N_put (E := (uE E 0 (.inr (9, [.ref (gR G 1), .int 0, .int 0, .ref (gR G 2), .null, .null, .null, .null, .int 0, .null, .null, .null])))) (ty := .object "SongFields$Valley") (j := 4) (k := 0) C hG hP hS uX9 tyX9 tyX9_ok nmX9 rfl (by decide) wd351 rfl (Or.inl rfl) (by decide +kernel) rfl rfl (by decide) uE_at (Nat.le_of_ble_eq_true rfl) dX9_init_32 (fun H locs hP hS => ?_)
  rw [uE2] at hP
  replace hP : Yw G (uE E 0 (.inr (9, [.ref (gR G 1), .int 0, .int 0, .ref (gR G 2), .ref (gR G 17), .null, .null, .null, .int 0, .null, .null, .null]))) 32 H := hP
  refine lv_aload_n hx hb dX9_init_35 rfl (lv_at hl 0 rfl) ?_
  refine N_new (E := (uE E 0 (.inr (9, [.ref (gR G 1), .int 0, .int 0, .ref (gR G 2), .ref (gR G 17), .null, .null, .null, .int 0, .null, .null, .null])))) (ci := 6) (fs := [.null, .null, .null, .int 0, .int 0]) C hG hP hS uX6 tyX6 tyX6_ok rfl wd151 wd152 wd4 (fun j hj => by match j, hj with | 0, _ => rfl | 1, _ => rfl | 2, _ => rfl | 3, _ => rfl | 4, _ => rfl | (z + 5), h => exact absurd h (by omega)) (Nat.le_of_ble_eq_true rfl) (Nat.le_of_ble_eq_true rfl) dX9_init_36 (fun H hP hS => ?_)
  refine lv_dup hx hb dX9_init_39 rfl ?_
  refine lv_aload_n hx hb dX9_init_40 rfl (lv_at hl 0 rfl) ?_
  refine N_get (j := 0) (k := 0) C hP uX9 rfl (by decide) wd347 rfl (by decide) ((uE_ne (by decide)).trans uE_at) rfl dX9_init_41 ?_
  refine lv_aload_n hx hb dX9_init_44 rfl (lv_at hl 0 rfl) ?_
  refine N_get (j := 4) (k := 0) C hP uX9 rfl (by decide) wd351 rfl (by decide) ((uE_ne (by decide)).trans uE_at) rfl dX9_init_45 ?_
  refine N_ci (k := 32) (rest := [.ref (gR G 32), .ref (gR G 0)]) (As := [.ref (gR G 1), .ref (gR G 17)]) C hG hP hS (ciX6_32 l G (uE E 0 (.inr (9, [.ref (gR G 1), .int 0, .int 0, .ref (gR G 2), .ref (gR G 17), .null, .null, .null, .int 0, .null, .null, .null]))) (fun j h1 h2 => (uE_ne (by omega)).trans (hE j (by omega) (by omega)))) kIX9_25 hl.1 ⟨by decide, by decide⟩ rfl rfl (Nat.le_of_ble_eq_true rfl) dX9_init_48 ⟨(Nat.le_of_ble_eq_true rfl), (Nat.le_of_ble_eq_true rfl)⟩ (fun H locs hP hS => ?_)
  replace hP := hP.fold ((uE_ne (by decide)).trans (hE 32 (by decide) (by decide)))
  refine N_put (E := (uE E 0 (.inr (9, [.ref (gR G 1), .int 0, .int 0, .ref (gR G 2), .ref (gR G 17), .null, .null, .null, .int 0, .null, .null, .null])))) (ty := .object "SongFields$Teller") (j := 5) (k := 0) C hG hP hS uX9 tyX9 tyX9_ok nmX9 rfl (by decide) wd352 rfl (Or.inr ⟨rfl, hin, rfl⟩) (by decide +kernel) rfl rfl (by decide) uE_at (Nat.le_of_ble_eq_true rfl) dX9_init_51 (fun H locs hP hS => ?_)
  rw [uE2] at hP
  replace hP : Yw G (uE E 0 (.inr (9, [.ref (gR G 1), .int 0, .int 0, .ref (gR G 2), .ref (gR G 17), .ref (gR G 32), .null, .null, .int 0, .null, .null, .null]))) 36 H := hP
  refine lv_aload_n hx hb dX9_init_54 rfl (lv_at hl 0 rfl) ?_
  refine N_new (E := (uE E 0 (.inr (9, [.ref (gR G 1), .int 0, .int 0, .ref (gR G 2), .ref (gR G 17), .ref (gR G 32), .null, .null, .int 0, .null, .null, .null])))) (ci := 4) (fs := [.null, .null, .int 0, .int 0, .int 0, .null, .null, .null, .null]) C hG hP hS uX4 tyX4 tyX4_ok rfl wd232 wd233 wd7 (fun j hj => by match j, hj with | 0, _ => rfl | 1, _ => rfl | 2, _ => rfl | 3, _ => rfl | 4, _ => rfl | 5, _ => rfl | 6, _ => rfl | 7, _ => rfl | 8, _ => rfl | (z + 9), h => exact absurd h (by omega)) (Nat.le_of_ble_eq_true rfl) (Nat.le_of_ble_eq_true rfl) dX9_init_55 (fun H hP hS => ?_)
  refine lv_dup hx hb dX9_init_58 rfl ?_
  refine N_cnJ (host := RX9) (k := 36) (rest := [.ref (gR G 36), .ref (gR G 0)]) (As := []) C hJ hP hS (ciX4_36 l G (uE E 0 (.inr (9, [.ref (gR G 1), .int 0, .int 0, .ref (gR G 2), .ref (gR G 17), .ref (gR G 32), .null, .null, .int 0, .null, .null, .null]))) (fun j h1 h2 => (uE_ne (by omega)).trans (hE j (by omega) (by omega)))) hJ.2.2.2.1 kIX9_34 hl.1 ⟨by decide, by decide⟩ rfl rfl (Nat.le_of_ble_eq_true rfl) dX9_init_59 ⟨(Nat.le_of_ble_eq_true rfl), (Nat.le_of_ble_eq_true rfl)⟩ (fun H locs hP hS => ?_)
  replace hP := hP.fold ((uE_ne (by decide)).trans (hE 36 (by decide) (by decide)))
  refine N_put (E := (uE E 0 (.inr (9, [.ref (gR G 1), .int 0, .int 0, .ref (gR G 2), .ref (gR G 17), .ref (gR G 32), .null, .null, .int 0, .null, .null, .null])))) (ty := .object "SongFields$Story") (j := 6) (k := 0) C hG hP hS uX9 tyX9 tyX9_ok nmX9 rfl (by decide) wd353 rfl (Or.inr ⟨rfl, hin, rfl⟩) (by decide +kernel) rfl rfl (by decide) uE_at (Nat.le_of_ble_eq_true rfl) dX9_init_62 (fun H locs hP hS => ?_)
  rw [uE2] at hP
  replace hP : Yw G (uE E 0 (.inr (9, [.ref (gR G 1), .int 0, .int 0, .ref (gR G 2), .ref (gR G 17), .ref (gR G 32), .ref (gR G 36), .null, .int 0, .null, .null, .null]))) 83 H := hP
  refine lv_aload_n hx hb dX9_init_65 rfl (lv_at hl 0 rfl) ?_
  refine N_new (E := (uE E 0 (.inr (9, [.ref (gR G 1), .int 0, .int 0, .ref (gR G 2), .ref (gR G 17), .ref (gR G 32), .ref (gR G 36), .null, .int 0, .null, .null, .null])))) (ci := 4) (fs := [.null, .null, .int 0, .int 0, .int 0, .null, .null, .null, .null]) C hG hP hS uX4 tyX4 tyX4_ok rfl wd232 wd233 wd7 (fun j hj => by match j, hj with | 0, _ => rfl | 1, _ => rfl | 2, _ => rfl | 3, _ => rfl | 4, _ => rfl | 5, _ => rfl | 6, _ => rfl | 7, _ => rfl | 8, _ => rfl | (z + 9), h => exact absurd h (by omega)) (Nat.le_of_ble_eq_true rfl) (Nat.le_of_ble_eq_true rfl) dX9_init_66 (fun H hP hS => ?_)
  refine lv_dup hx hb dX9_init_69 rfl ?_
  refine N_cnJ (host := RX9) (k := 83) (rest := [.ref (gR G 83), .ref (gR G 0)]) (As := []) C hJ hP hS (ciX4_83 l G (uE E 0 (.inr (9, [.ref (gR G 1), .int 0, .int 0, .ref (gR G 2), .ref (gR G 17), .ref (gR G 32), .ref (gR G 36), .null, .int 0, .null, .null, .null]))) (fun j h1 h2 => (uE_ne (by omega)).trans (hE j (by omega) (by omega)))) hJ.2.2.2.1 kIX9_34 hl.1 ⟨by decide, by decide⟩ rfl rfl (Nat.le_of_ble_eq_true rfl) dX9_init_70 ⟨(Nat.le_of_ble_eq_true rfl), (Nat.le_of_ble_eq_true rfl)⟩ (fun H locs hP hS => ?_)
  replace hP := hP.fold ((uE_ne (by decide)).trans (hE 83 (by decide) (by decide)))
  refine N_put (E := (uE E 0 (.inr (9, [.ref (gR G 1), .int 0, .int 0, .ref (gR G 2), .ref (gR G 17), .ref (gR G 32), .ref (gR G 36), .null, .int 0, .null, .null, .null])))) (ty := .object "SongFields$Story") (j := 7) (k := 0) C hG hP hS uX9 tyX9 tyX9_ok nmX9 rfl (by decide) wd354 rfl (Or.inr ⟨rfl, hin, rfl⟩) (by decide +kernel) rfl rfl (by decide) uE_at (Nat.le_of_ble_eq_true rfl) dX9_init_73 (fun H locs hP hS => ?_)
  rw [uE2] at hP
  replace hP : Yw G (uE E 0 (.inr (9, [.ref (gR G 1), .int 0, .int 0, .ref (gR G 2), .ref (gR G 17), .ref (gR G 32), .ref (gR G 36), .ref (gR G 83), .int 0, .null, .null, .null]))) 130 H := hP
  refine lv_aload_n hx hb dX9_init_76 rfl (lv_at hl 0 rfl) ?_
  refine N_new (E := (uE E 0 (.inr (9, [.ref (gR G 1), .int 0, .int 0, .ref (gR G 2), .ref (gR G 17), .ref (gR G 32), .ref (gR G 36), .ref (gR G 83), .int 0, .null, .null, .null])))) (ci := 0) (fs := [.null, .null, .null, .null, .null, .null, .null]) C hG hP hS uX0 tyX0 tyX0_ok rfl wd277 wd278 wd8 (fun j hj => by match j, hj with | 0, _ => rfl | 1, _ => rfl | 2, _ => rfl | 3, _ => rfl | 4, _ => rfl | 5, _ => rfl | 6, _ => rfl | (z + 7), h => exact absurd h (by omega)) (Nat.le_of_ble_eq_true rfl) (Nat.le_of_ble_eq_true rfl) dX9_init_77 (fun H hP hS => ?_)
  refine lv_dup hx hb dX9_init_80 rfl ?_
  refine lv_aload_n hx hb dX9_init_81 rfl (lv_at hl 0 rfl) ?_
  refine N_get (j := 3) (k := 0) C hP uX9 rfl (by decide) wd350 rfl (by decide) ((uE_ne (by decide)).trans uE_at) rfl dX9_init_82 ?_
  refine N_ci (k := 130) (rest := [.ref (gR G 130), .ref (gR G 0)]) (As := [.ref (gR G 2)]) C hG hP hS (ciX0_130 l G (uE E 0 (.inr (9, [.ref (gR G 1), .int 0, .int 0, .ref (gR G 2), .ref (gR G 17), .ref (gR G 32), .ref (gR G 36), .ref (gR G 83), .int 0, .null, .null, .null]))) (fun j h1 h2 => (uE_ne (by omega)).trans (hE j (by omega) (by omega)))) kIX9_44 hl.1 ⟨by decide, by decide⟩ rfl rfl (Nat.le_of_ble_eq_true rfl) dX9_init_85 ⟨(Nat.le_of_ble_eq_true rfl), (Nat.le_of_ble_eq_true rfl)⟩ (fun H locs hP hS => ?_)
  replace hP := hP.fold ((uE_ne (by decide)).trans (hE 130 (by decide) (by decide)))
  refine N_put (E := (uE E 0 (.inr (9, [.ref (gR G 1), .int 0, .int 0, .ref (gR G 2), .ref (gR G 17), .ref (gR G 32), .ref (gR G 36), .ref (gR G 83), .int 0, .null, .null, .null])))) (ty := .object "SongFields$Course") (j := 9) (k := 0) C hG hP hS uX9 tyX9 tyX9_ok nmX9 rfl (by decide) wd356 rfl (Or.inr ⟨rfl, hin, rfl⟩) (by decide +kernel) rfl rfl (by decide) uE_at (Nat.le_of_ble_eq_true rfl) dX9_init_88 (fun H locs hP hS => ?_)
  rw [uE2] at hP
  replace hP : Yw G (uE E 0 (.inr (9, [.ref (gR G 1), .int 0, .int 0, .ref (gR G 2), .ref (gR G 17), .ref (gR G 32), .ref (gR G 36), .ref (gR G 83), .int 0, .ref (gR G 130), .null, .null]))) 137 H := hP
  refine lv_aload_n hx hb dX9_init_91 rfl (lv_at hl 0 rfl) ?_
  refine N_new (E := (uE E 0 (.inr (9, [.ref (gR G 1), .int 0, .int 0, .ref (gR G 2), .ref (gR G 17), .ref (gR G 32), .ref (gR G 36), .ref (gR G 83), .int 0, .ref (gR G 130), .null, .null])))) (ci := 1) (fs := [.null, .int 0, .int 0, .null, .null, .int 0]) C hG hP hS uX1 tyX1 tyX1_ok rfl wd309 wd310 wd9 (fun j hj => by match j, hj with | 0, _ => rfl | 1, _ => rfl | 2, _ => rfl | 3, _ => rfl | 4, _ => rfl | 5, _ => rfl | (z + 6), h => exact absurd h (by omega)) (Nat.le_of_ble_eq_true rfl) (Nat.le_of_ble_eq_true rfl) dX9_init_92 (fun H hP hS => ?_)
  refine lv_dup hx hb dX9_init_95 rfl ?_
  refine lv_aload_n hx hb dX9_init_96 rfl (lv_at hl 0 rfl) ?_
  refine N_get (j := 9) (k := 0) C hP uX9 rfl (by decide) wd356 rfl (by decide) ((uE_ne (by decide)).trans uE_at) rfl dX9_init_97 ?_
  refine N_ci (k := 137) (rest := [.ref (gR G 137), .ref (gR G 0)]) (As := [.ref (gR G 130)]) C hG hP hS (ciX1_137 l G (uE E 0 (.inr (9, [.ref (gR G 1), .int 0, .int 0, .ref (gR G 2), .ref (gR G 17), .ref (gR G 32), .ref (gR G 36), .ref (gR G 83), .int 0, .ref (gR G 130), .null, .null]))) (fun j h1 h2 => (uE_ne (by omega)).trans (hE j (by omega) (by omega)))) kIX9_53 hl.1 ⟨by decide, by decide⟩ rfl rfl (Nat.le_of_ble_eq_true rfl) dX9_init_100 ⟨(Nat.le_of_ble_eq_true rfl), (Nat.le_of_ble_eq_true rfl)⟩ (fun H locs hP hS => ?_)
  replace hP := hP.fold ((uE_ne (by decide)).trans (hE 137 (by decide) (by decide)))
  refine N_put (E := (uE E 0 (.inr (9, [.ref (gR G 1), .int 0, .int 0, .ref (gR G 2), .ref (gR G 17), .ref (gR G 32), .ref (gR G 36), .ref (gR G 83), .int 0, .ref (gR G 130), .null, .null])))) (ty := .object "SongFields$Guess") (j := 10) (k := 0) C hG hP hS uX9 tyX9 tyX9_ok nmX9 rfl (by decide) wd357 rfl (Or.inr ⟨rfl, hin, rfl⟩) (by decide +kernel) rfl rfl (by decide) uE_at (Nat.le_of_ble_eq_true rfl) dX9_init_103 (fun H locs hP hS => ?_)
  rw [uE2] at hP
  replace hP : Yw G (uE E 0 (.inr (9, [.ref (gR G 1), .int 0, .int 0, .ref (gR G 2), .ref (gR G 17), .ref (gR G 32), .ref (gR G 36), .ref (gR G 83), .int 0, .ref (gR G 130), .ref (gR G 137), .null]))) 140 H := hP
  refine lv_aload_n hx hb dX9_init_106 rfl (lv_at hl 0 rfl) ?_
  refine N_new (E := (uE E 0 (.inr (9, [.ref (gR G 1), .int 0, .int 0, .ref (gR G 2), .ref (gR G 17), .ref (gR G 32), .ref (gR G 36), .ref (gR G 83), .int 0, .ref (gR G 130), .ref (gR G 137), .null])))) (ci := 5) (fs := [.null]) C hG hP hS uX5 tyX5 tyX5_ok rfl wd337 wd338 wd10 (fun j hj => by match j, hj with | 0, _ => rfl | (z + 1), h => exact absurd h (by omega)) (Nat.le_of_ble_eq_true rfl) (Nat.le_of_ble_eq_true rfl) dX9_init_107 (fun H hP hS => ?_)
  refine lv_dup hx hb dX9_init_110 rfl ?_
  refine N_cn (host := RX9) (k := 140) (rest := [.ref (gR G 140), .ref (gR G 0)]) (As := []) C hG hP hS (ciX5_140 l G (uE E 0 (.inr (9, [.ref (gR G 1), .int 0, .int 0, .ref (gR G 2), .ref (gR G 17), .ref (gR G 32), .ref (gR G 36), .ref (gR G 83), .int 0, .ref (gR G 130), .ref (gR G 137), .null]))) (fun j h1 h2 => (uE_ne (by omega)).trans (hE j (by omega) (by omega)))) hJ.2.2.2.2 kIX9_62 hl.1 ⟨by decide, by decide⟩ rfl rfl (Nat.le_of_ble_eq_true rfl) dX9_init_111 ⟨(Nat.le_of_ble_eq_true rfl), (Nat.le_of_ble_eq_true rfl)⟩ (fun H locs hP hS => ?_)
  replace hP := hP.fold ((uE_ne (by decide)).trans (hE 140 (by decide) (by decide)))
  refine N_put (E := (uE E 0 (.inr (9, [.ref (gR G 1), .int 0, .int 0, .ref (gR G 2), .ref (gR G 17), .ref (gR G 32), .ref (gR G 36), .ref (gR G 83), .int 0, .ref (gR G 130), .ref (gR G 137), .null])))) (ty := .object "SongFields$Survey") (j := 11) (k := 0) C hG hP hS uX9 tyX9 tyX9_ok nmX9 rfl (by decide) wd358 rfl (Or.inr ⟨rfl, hin, rfl⟩) (by decide +kernel) rfl rfl (by decide) uE_at (Nat.le_of_ble_eq_true rfl) dX9_init_114 (fun H locs hP hS => ?_)
  rw [uE2] at hP
  replace hP : Yw G (uE E 0 (.inr (9, [.ref (gR G 1), .int 0, .int 0, .ref (gR G 2), .ref (gR G 17), .ref (gR G 32), .ref (gR G 36), .ref (gR G 83), .int 0, .ref (gR G 130), .ref (gR G 137), .ref (gR G 140)]))) 142 H := hP
  refine lv_aload_n hx hb dX9_init_117 rfl (lv_at hl 0 rfl) ?_
  refine lv_iconst (v := (-1)) hx hb dX9_init_118 rfl ?_
  refine N_put (E := (uE E 0 (.inr (9, [.ref (gR G 1), .int 0, .int 0, .ref (gR G 2), .ref (gR G 17), .ref (gR G 32), .ref (gR G 36), .ref (gR G 83), .int 0, .ref (gR G 130), .ref (gR G 137), .ref (gR G 140)])))) (ty := .int) (j := 2) (k := 0) C hG hP hS uX9 tyX9 tyX9_ok nmX9 rfl (by decide) wd349 rfl (Or.inl rfl) (by decide +kernel) rfl rfl (by decide) uE_at (Nat.le_of_ble_eq_true rfl) dX9_init_119 (fun H locs hP hS => ?_)
  rw [uE2] at hP
  replace hP : Yw G (uE E 0 (.inr (9, [.ref (gR G 1), .int 0, .int (-1), .ref (gR G 2), .ref (gR G 17), .ref (gR G 32), .ref (gR G 36), .ref (gR G 83), .int 0, .ref (gR G 130), .ref (gR G 137), .ref (gR G 140)]))) 142 H := hP
  exact N_ret C hr (show Yw G (uE E 0 (cE G 0 (S0 0))) 142 H from hP) hS dX9_init_122
set_option maxRecDepth 20000 in
theorem ciX9_0 (l : Launch) (G : Gt) (E : Nat → va_E) (hE : ∀ j, 0 < j → j < 142 → E j = cE G j (S0 j)) : Met l yX9_init (wm yX9_init cX9_init 1 none) (rmL 4 141 13867) (PcJ G (uE E 0 (.inr (9, [.null, .int 0, .int 0, .null, .null, .null, .null, .null, .int 0, .null, .null, .null]))) 1 [.ref (gR G 0)]) (QN G (uE E 0 (cE G 0 (S0 0))) 142) 141 13867 (Ab G) := by
  refine Met.ofW (cc := cX9_init) (maxL := 1) (ret := none) (by decide) rfl ?_
  intro p e s m args below meth c s₁ B hml hv
  obtain ⟨rfl, hK, hJ, hP⟩ := hv
  have hin : meth.name = "<init>" := (name_of_methodNamed B.named B.method).1
  have C : Cx p s m _ meth c cX9_init 1 RX9 G := ⟨⟨B.exec, B.bytes, hml, findClass_of_methodNamed B.named, fun w hw => atoms_spec (ws := wm yX9_init cX9_init 1 none) B.pre w (List.mem_cons_of_mem _ hw)⟩, B.notSynchronized, hK⟩
  have hl := lv_entry ([.ref (gR G 0)]) (n := 1) (Nat.le_of_ble_eq_true rfl)
  rw [lg_entry_eq]
  generalize (lg_sl ([.ref (gR G 0)]) ++ List.replicate (1 - (lg_sl ([.ref (gR G 0)])).length) Slot.unset).toArray = ls at hl ⊢
  exact sciX9_0 C hJ B.returns hin hE hP va_S.rf hl
end IJ
