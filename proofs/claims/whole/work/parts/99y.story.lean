section IJ
variable {p : Program} {l : Launch} {e : Env} {s : State} {m : MethodId} {args : Array Value} {below : List Frame} {meth : Method} {c : Code} {G : Gt}
set_option maxHeartbeats 4000000 in
set_option maxRecDepth 20000 in
theorem sciX4_36 (C : Cx p s m args meth c cX4_init 1 RX4 G) (hJ : Kd G s) (hr : meth.sig.returnType = none) (hin : meth.name = "<init>") {E : Nat → va_E} (hE : ∀ j, 36 < j → j < 83 → E j = cE G j (S0 j)) {H : Heap} {locs : List Loc} {ls : Array Slot} (hP : Yw G (uE E 36 (.inr (4, [.null, .null, .int 0, .int 0, .int 0, .null, .null, .null, .null]))) 37 H) (hS : va_S (Ab G) s.heap H locs) (hl : lv_has ls 1 [(0, .ref (gR G 36))]) : W p l e (rmL 2 46 4413) s m args below meth c H locs 0 0 (MQ below (QN G (uE E 36 (cE G 36 (S0 36))) 83) args s 46 4413 (Ab G)) (F0 m 0 ls []) := by
  have hx := C.1.1
  have hb := C.1.2.1
  have hG := hJ.1
  refine lv_aload_n hx hb dX4_init_0 rfl (lv_at hl 0 rfl) ?_
  refine N_obj C hl.1 wd237 wd31 wd32 (Nat.le_of_ble_eq_true rfl) (Nat.le_of_ble_eq_true rfl) dX4_init_1 ?_
  refine lv_aload_n hx hb dX4_init_4 rfl (lv_at hl 0 rfl) ?_
  refine lv_bipush (v := 106) hx hb dX4_init_5 rfl ?_
  refine N_newI (E := (uE E 36 (.inr (4, [.null, .null, .int 0, .int 0, .int 0, .null, .null, .null, .null])))) C hG hP hS wd65 (((uE_ne (by decide)).trans (hE 37 (by decide) (by decide))).trans rfl) (by decide) rfl (Nat.le_of_ble_eq_true rfl) (Nat.le_of_ble_eq_true rfl) (Nat.le_of_ble_eq_true rfl) dX4_init_7 (fun H hP hS => ?_)
  refine N_put (E := (uE E 36 (.inr (4, [.null, .null, .int 0, .int 0, .int 0, .null, .null, .null, .null])))) (ty := .array .int) (j := 0) (k := 36) C hG hP hS uX4 tyX4 tyX4_ok nmX4 rfl (by decide) wd240 rfl (Or.inr ⟨rfl, hin, rfl⟩) (by decide +kernel) rfl rfl (by decide) uE_at (Nat.le_of_ble_eq_true rfl) dX4_init_9 (fun H locs hP hS => ?_)
  rw [uE2] at hP
  replace hP : Yw G (uE E 36 (.inr (4, [.ref (gR G 37), .null, .int 0, .int 0, .int 0, .null, .null, .null, .null]))) 38 H := hP
  refine lv_aload_n hx hb dX4_init_12 rfl (lv_at hl 0 rfl) ?_
  refine lv_bipush (v := 40) hx hb dX4_init_13 rfl ?_
  refine lv_bipush (v := 106) hx hb dX4_init_15 rfl ?_
  refine N_mna (E := (uE E 36 (.inr (4, [.ref (gR G 37), .null, .int 0, .int 0, .int 0, .null, .null, .null, .null])))) (N := 40) (M := 106) C hG hJ.2.1 hP hS wd238 wd65 (((uE_ne (by decide)).trans (hE 38 (by decide) (by decide))).trans rfl) (fun i hi => (uE_ne (by omega)).trans ((hE (38 + 1 + i) (by omega) (by omega)).trans (cE_r106 (r106_38 i hi).1 (r106_38 i hi).2 ⟨by omega, by omega, by omega, by omega⟩))) (by decide) (by decide) rfl rfl (Nat.le_of_ble_eq_true rfl) (Nat.le_of_ble_eq_true rfl) (Nat.le_of_ble_eq_true rfl) (Nat.le_of_ble_eq_true rfl) (Nat.le_of_ble_eq_true rfl) dX4_init_17 (fun H hP hS => ?_)
  replace hP : Yw G (uE E 36 (.inr (4, [.ref (gR G 37), .null, .int 0, .int 0, .int 0, .null, .null, .null, .null]))) 79 H := hP
  refine N_put (E := (uE E 36 (.inr (4, [.ref (gR G 37), .null, .int 0, .int 0, .int 0, .null, .null, .null, .null])))) (ty := .array (.array .int)) (j := 1) (k := 36) C hG hP hS uX4 tyX4 tyX4_ok nmX4 rfl (by decide) wd243 rfl (Or.inr ⟨rfl, hin, rfl⟩) (by decide +kernel) rfl rfl (by decide) uE_at (Nat.le_of_ble_eq_true rfl) dX4_init_21 (fun H locs hP hS => ?_)
  rw [uE2] at hP
  replace hP : Yw G (uE E 36 (.inr (4, [.ref (gR G 37), .ref (gR G 38), .int 0, .int 0, .int 0, .null, .null, .null, .null]))) 79 H := hP
  refine lv_aload_n hx hb dX4_init_24 rfl (lv_at hl 0 rfl) ?_
  refine lv_bipush (v := 8) hx hb dX4_init_25 rfl ?_
  refine N_newI (E := (uE E 36 (.inr (4, [.ref (gR G 37), .ref (gR G 38), .int 0, .int 0, .int 0, .null, .null, .null, .null])))) C hG hP hS wd65 (((uE_ne (by decide)).trans (hE 79 (by decide) (by decide))).trans rfl) (by decide) rfl (Nat.le_of_ble_eq_true rfl) (Nat.le_of_ble_eq_true rfl) (Nat.le_of_ble_eq_true rfl) dX4_init_27 (fun H hP hS => ?_)
  refine N_put (E := (uE E 36 (.inr (4, [.ref (gR G 37), .ref (gR G 38), .int 0, .int 0, .int 0, .null, .null, .null, .null])))) (ty := .array .int) (j := 5) (k := 36) C hG hP hS uX4 tyX4 tyX4_ok nmX4 rfl (by decide) wd250 rfl (Or.inr ⟨rfl, hin, rfl⟩) (by decide +kernel) rfl rfl (by decide) uE_at (Nat.le_of_ble_eq_true rfl) dX4_init_29 (fun H locs hP hS => ?_)
  rw [uE2] at hP
  replace hP : Yw G (uE E 36 (.inr (4, [.ref (gR G 37), .ref (gR G 38), .int 0, .int 0, .int 0, .ref (gR G 79), .null, .null, .null]))) 80 H := hP
  refine lv_aload_n hx hb dX4_init_32 rfl (lv_at hl 0 rfl) ?_
  refine lv_bipush (v := 8) hx hb dX4_init_33 rfl ?_
  refine N_newI (E := (uE E 36 (.inr (4, [.ref (gR G 37), .ref (gR G 38), .int 0, .int 0, .int 0, .ref (gR G 79), .null, .null, .null])))) C hG hP hS wd65 (((uE_ne (by decide)).trans (hE 80 (by decide) (by decide))).trans rfl) (by decide) rfl (Nat.le_of_ble_eq_true rfl) (Nat.le_of_ble_eq_true rfl) (Nat.le_of_ble_eq_true rfl) dX4_init_35 (fun H hP hS => ?_)
  refine N_put (E := (uE E 36 (.inr (4, [.ref (gR G 37), .ref (gR G 38), .int 0, .int 0, .int 0, .ref (gR G 79), .null, .null, .null])))) (ty := .array .int) (j := 6) (k := 36) C hG hP hS uX4 tyX4 tyX4_ok nmX4 rfl (by decide) wd252 rfl (Or.inr ⟨rfl, hin, rfl⟩) (by decide +kernel) rfl rfl (by decide) uE_at (Nat.le_of_ble_eq_true rfl) dX4_init_37 (fun H locs hP hS => ?_)
  rw [uE2] at hP
  replace hP : Yw G (uE E 36 (.inr (4, [.ref (gR G 37), .ref (gR G 38), .int 0, .int 0, .int 0, .ref (gR G 79), .ref (gR G 80), .null, .null]))) 81 H := hP
  refine lv_aload_n hx hb dX4_init_40 rfl (lv_at hl 0 rfl) ?_
  refine lv_bipush (v := 8) hx hb dX4_init_41 rfl ?_
  refine N_newI (E := (uE E 36 (.inr (4, [.ref (gR G 37), .ref (gR G 38), .int 0, .int 0, .int 0, .ref (gR G 79), .ref (gR G 80), .null, .null])))) C hG hP hS wd65 (((uE_ne (by decide)).trans (hE 81 (by decide) (by decide))).trans rfl) (by decide) rfl (Nat.le_of_ble_eq_true rfl) (Nat.le_of_ble_eq_true rfl) (Nat.le_of_ble_eq_true rfl) dX4_init_43 (fun H hP hS => ?_)
  refine N_put (E := (uE E 36 (.inr (4, [.ref (gR G 37), .ref (gR G 38), .int 0, .int 0, .int 0, .ref (gR G 79), .ref (gR G 80), .null, .null])))) (ty := .array .int) (j := 7) (k := 36) C hG hP hS uX4 tyX4 tyX4_ok nmX4 rfl (by decide) wd254 rfl (Or.inr ⟨rfl, hin, rfl⟩) (by decide +kernel) rfl rfl (by decide) uE_at (Nat.le_of_ble_eq_true rfl) dX4_init_45 (fun H locs hP hS => ?_)
  rw [uE2] at hP
  replace hP : Yw G (uE E 36 (.inr (4, [.ref (gR G 37), .ref (gR G 38), .int 0, .int 0, .int 0, .ref (gR G 79), .ref (gR G 80), .ref (gR G 81), .null]))) 82 H := hP
  refine lv_aload_n hx hb dX4_init_48 rfl (lv_at hl 0 rfl) ?_
  refine lv_iconst (v := 3) hx hb dX4_init_49 rfl ?_
  refine N_newI (E := (uE E 36 (.inr (4, [.ref (gR G 37), .ref (gR G 38), .int 0, .int 0, .int 0, .ref (gR G 79), .ref (gR G 80), .ref (gR G 81), .null])))) C hG hP hS wd65 (((uE_ne (by decide)).trans (hE 82 (by decide) (by decide))).trans rfl) (by decide) rfl (Nat.le_of_ble_eq_true rfl) (Nat.le_of_ble_eq_true rfl) (Nat.le_of_ble_eq_true rfl) dX4_init_50 (fun H hP hS => ?_)
  refine N_put (E := (uE E 36 (.inr (4, [.ref (gR G 37), .ref (gR G 38), .int 0, .int 0, .int 0, .ref (gR G 79), .ref (gR G 80), .ref (gR G 81), .null])))) (ty := .array .int) (j := 8) (k := 36) C hG hP hS uX4 tyX4 tyX4_ok nmX4 rfl (by decide) wd256 rfl (Or.inr ⟨rfl, hin, rfl⟩) (by decide +kernel) rfl rfl (by decide) uE_at (Nat.le_of_ble_eq_true rfl) dX4_init_52 (fun H locs hP hS => ?_)
  rw [uE2] at hP
  replace hP : Yw G (uE E 36 (.inr (4, [.ref (gR G 37), .ref (gR G 38), .int 0, .int 0, .int 0, .ref (gR G 79), .ref (gR G 80), .ref (gR G 81), .ref (gR G 82)]))) 83 H := hP
  exact N_ret C hr (show Yw G (uE E 36 (cE G 36 (S0 36))) 83 H from hP) hS dX4_init_55
set_option maxRecDepth 20000 in
theorem ciX4_36 (l : Launch) (G : Gt) (E : Nat → va_E) (hE : ∀ j, 36 < j → j < 83 → E j = cE G j (S0 j)) : Met l yX4_init (wm yX4_init cX4_init 1 none) (rmL 2 46 4413) (PcJ G (uE E 36 (.inr (4, [.null, .null, .int 0, .int 0, .int 0, .null, .null, .null, .null]))) 37 [.ref (gR G 36)]) (QN G (uE E 36 (cE G 36 (S0 36))) 83) 46 4413 (Ab G) := by
  refine Met.ofW (cc := cX4_init) (maxL := 1) (ret := none) (by decide) rfl ?_
  intro p e s m args below meth c s₁ B hml hv
  obtain ⟨rfl, hK, hJ, hP⟩ := hv
  have hin : meth.name = "<init>" := (name_of_methodNamed B.named B.method).1
  have C : Cx p s m _ meth c cX4_init 1 RX4 G := ⟨⟨B.exec, B.bytes, hml, findClass_of_methodNamed B.named, fun w hw => atoms_spec (ws := wm yX4_init cX4_init 1 none) B.pre w (List.mem_cons_of_mem _ hw)⟩, B.notSynchronized, hK⟩
  have hl := lv_entry ([.ref (gR G 36)]) (n := 1) (Nat.le_of_ble_eq_true rfl)
  rw [lg_entry_eq]
  generalize (lg_sl ([.ref (gR G 36)]) ++ List.replicate (1 - (lg_sl ([.ref (gR G 36)])).length) Slot.unset).toArray = ls at hl ⊢
  exact sciX4_36 C hJ B.returns hin hE hP va_S.rf hl
set_option maxHeartbeats 4000000 in
set_option maxRecDepth 20000 in
theorem sciX4_83 (C : Cx p s m args meth c cX4_init 1 RX4 G) (hJ : Kd G s) (hr : meth.sig.returnType = none) (hin : meth.name = "<init>") {E : Nat → va_E} (hE : ∀ j, 83 < j → j < 130 → E j = cE G j (S0 j)) {H : Heap} {locs : List Loc} {ls : Array Slot} (hP : Yw G (uE E 83 (.inr (4, [.null, .null, .int 0, .int 0, .int 0, .null, .null, .null, .null]))) 84 H) (hS : va_S (Ab G) s.heap H locs) (hl : lv_has ls 1 [(0, .ref (gR G 83))]) : W p l e (rmL 2 46 4413) s m args below meth c H locs 0 0 (MQ below (QN G (uE E 83 (cE G 83 (S0 83))) 130) args s 46 4413 (Ab G)) (F0 m 0 ls []) := by
  have hx := C.1.1
  have hb := C.1.2.1
  have hG := hJ.1
  refine lv_aload_n hx hb dX4_init_0 rfl (lv_at hl 0 rfl) ?_
  refine N_obj C hl.1 wd237 wd31 wd32 (Nat.le_of_ble_eq_true rfl) (Nat.le_of_ble_eq_true rfl) dX4_init_1 ?_
  refine lv_aload_n hx hb dX4_init_4 rfl (lv_at hl 0 rfl) ?_
  refine lv_bipush (v := 106) hx hb dX4_init_5 rfl ?_
  refine N_newI (E := (uE E 83 (.inr (4, [.null, .null, .int 0, .int 0, .int 0, .null, .null, .null, .null])))) C hG hP hS wd65 (((uE_ne (by decide)).trans (hE 84 (by decide) (by decide))).trans rfl) (by decide) rfl (Nat.le_of_ble_eq_true rfl) (Nat.le_of_ble_eq_true rfl) (Nat.le_of_ble_eq_true rfl) dX4_init_7 (fun H hP hS => ?_)
  refine N_put (E := (uE E 83 (.inr (4, [.null, .null, .int 0, .int 0, .int 0, .null, .null, .null, .null])))) (ty := .array .int) (j := 0) (k := 83) C hG hP hS uX4 tyX4 tyX4_ok nmX4 rfl (by decide) wd240 rfl (Or.inr ⟨rfl, hin, rfl⟩) (by decide +kernel) rfl rfl (by decide) uE_at (Nat.le_of_ble_eq_true rfl) dX4_init_9 (fun H locs hP hS => ?_)
  rw [uE2] at hP
  replace hP : Yw G (uE E 83 (.inr (4, [.ref (gR G 84), .null, .int 0, .int 0, .int 0, .null, .null, .null, .null]))) 85 H := hP
  refine lv_aload_n hx hb dX4_init_12 rfl (lv_at hl 0 rfl) ?_
  refine lv_bipush (v := 40) hx hb dX4_init_13 rfl ?_
  refine lv_bipush (v := 106) hx hb dX4_init_15 rfl ?_
  refine N_mna (E := (uE E 83 (.inr (4, [.ref (gR G 84), .null, .int 0, .int 0, .int 0, .null, .null, .null, .null])))) (N := 40) (M := 106) C hG hJ.2.1 hP hS wd238 wd65 (((uE_ne (by decide)).trans (hE 85 (by decide) (by decide))).trans rfl) (fun i hi => (uE_ne (by omega)).trans ((hE (85 + 1 + i) (by omega) (by omega)).trans (cE_r106 (r106_85 i hi).1 (r106_85 i hi).2 ⟨by omega, by omega, by omega, by omega⟩))) (by decide) (by decide) rfl rfl (Nat.le_of_ble_eq_true rfl) (Nat.le_of_ble_eq_true rfl) (Nat.le_of_ble_eq_true rfl) (Nat.le_of_ble_eq_true rfl) (Nat.le_of_ble_eq_true rfl) dX4_init_17 (fun H hP hS => ?_)
  replace hP : Yw G (uE E 83 (.inr (4, [.ref (gR G 84), .null, .int 0, .int 0, .int 0, .null, .null, .null, .null]))) 126 H := hP
  refine N_put (E := (uE E 83 (.inr (4, [.ref (gR G 84), .null, .int 0, .int 0, .int 0, .null, .null, .null, .null])))) (ty := .array (.array .int)) (j := 1) (k := 83) C hG hP hS uX4 tyX4 tyX4_ok nmX4 rfl (by decide) wd243 rfl (Or.inr ⟨rfl, hin, rfl⟩) (by decide +kernel) rfl rfl (by decide) uE_at (Nat.le_of_ble_eq_true rfl) dX4_init_21 (fun H locs hP hS => ?_)
  rw [uE2] at hP
  replace hP : Yw G (uE E 83 (.inr (4, [.ref (gR G 84), .ref (gR G 85), .int 0, .int 0, .int 0, .null, .null, .null, .null]))) 126 H := hP
  refine lv_aload_n hx hb dX4_init_24 rfl (lv_at hl 0 rfl) ?_
  refine lv_bipush (v := 8) hx hb dX4_init_25 rfl ?_
  refine N_newI (E := (uE E 83 (.inr (4, [.ref (gR G 84), .ref (gR G 85), .int 0, .int 0, .int 0, .null, .null, .null, .null])))) C hG hP hS wd65 (((uE_ne (by decide)).trans (hE 126 (by decide) (by decide))).trans rfl) (by decide) rfl (Nat.le_of_ble_eq_true rfl) (Nat.le_of_ble_eq_true rfl) (Nat.le_of_ble_eq_true rfl) dX4_init_27 (fun H hP hS => ?_)
  refine N_put (E := (uE E 83 (.inr (4, [.ref (gR G 84), .ref (gR G 85), .int 0, .int 0, .int 0, .null, .null, .null, .null])))) (ty := .array .int) (j := 5) (k := 83) C hG hP hS uX4 tyX4 tyX4_ok nmX4 rfl (by decide) wd250 rfl (Or.inr ⟨rfl, hin, rfl⟩) (by decide +kernel) rfl rfl (by decide) uE_at (Nat.le_of_ble_eq_true rfl) dX4_init_29 (fun H locs hP hS => ?_)
  rw [uE2] at hP
  replace hP : Yw G (uE E 83 (.inr (4, [.ref (gR G 84), .ref (gR G 85), .int 0, .int 0, .int 0, .ref (gR G 126), .null, .null, .null]))) 127 H := hP
  refine lv_aload_n hx hb dX4_init_32 rfl (lv_at hl 0 rfl) ?_
  refine lv_bipush (v := 8) hx hb dX4_init_33 rfl ?_
  refine N_newI (E := (uE E 83 (.inr (4, [.ref (gR G 84), .ref (gR G 85), .int 0, .int 0, .int 0, .ref (gR G 126), .null, .null, .null])))) C hG hP hS wd65 (((uE_ne (by decide)).trans (hE 127 (by decide) (by decide))).trans rfl) (by decide) rfl (Nat.le_of_ble_eq_true rfl) (Nat.le_of_ble_eq_true rfl) (Nat.le_of_ble_eq_true rfl) dX4_init_35 (fun H hP hS => ?_)
  refine N_put (E := (uE E 83 (.inr (4, [.ref (gR G 84), .ref (gR G 85), .int 0, .int 0, .int 0, .ref (gR G 126), .null, .null, .null])))) (ty := .array .int) (j := 6) (k := 83) C hG hP hS uX4 tyX4 tyX4_ok nmX4 rfl (by decide) wd252 rfl (Or.inr ⟨rfl, hin, rfl⟩) (by decide +kernel) rfl rfl (by decide) uE_at (Nat.le_of_ble_eq_true rfl) dX4_init_37 (fun H locs hP hS => ?_)
  rw [uE2] at hP
  replace hP : Yw G (uE E 83 (.inr (4, [.ref (gR G 84), .ref (gR G 85), .int 0, .int 0, .int 0, .ref (gR G 126), .ref (gR G 127), .null, .null]))) 128 H := hP
  refine lv_aload_n hx hb dX4_init_40 rfl (lv_at hl 0 rfl) ?_
  refine lv_bipush (v := 8) hx hb dX4_init_41 rfl ?_
  refine N_newI (E := (uE E 83 (.inr (4, [.ref (gR G 84), .ref (gR G 85), .int 0, .int 0, .int 0, .ref (gR G 126), .ref (gR G 127), .null, .null])))) C hG hP hS wd65 (((uE_ne (by decide)).trans (hE 128 (by decide) (by decide))).trans rfl) (by decide) rfl (Nat.le_of_ble_eq_true rfl) (Nat.le_of_ble_eq_true rfl) (Nat.le_of_ble_eq_true rfl) dX4_init_43 (fun H hP hS => ?_)
  refine N_put (E := (uE E 83 (.inr (4, [.ref (gR G 84), .ref (gR G 85), .int 0, .int 0, .int 0, .ref (gR G 126), .ref (gR G 127), .null, .null])))) (ty := .array .int) (j := 7) (k := 83) C hG hP hS uX4 tyX4 tyX4_ok nmX4 rfl (by decide) wd254 rfl (Or.inr ⟨rfl, hin, rfl⟩) (by decide +kernel) rfl rfl (by decide) uE_at (Nat.le_of_ble_eq_true rfl) dX4_init_45 (fun H locs hP hS => ?_)
  rw [uE2] at hP
  replace hP : Yw G (uE E 83 (.inr (4, [.ref (gR G 84), .ref (gR G 85), .int 0, .int 0, .int 0, .ref (gR G 126), .ref (gR G 127), .ref (gR G 128), .null]))) 129 H := hP
  refine lv_aload_n hx hb dX4_init_48 rfl (lv_at hl 0 rfl) ?_
  refine lv_iconst (v := 3) hx hb dX4_init_49 rfl ?_
  refine N_newI (E := (uE E 83 (.inr (4, [.ref (gR G 84), .ref (gR G 85), .int 0, .int 0, .int 0, .ref (gR G 126), .ref (gR G 127), .ref (gR G 128), .null])))) C hG hP hS wd65 (((uE_ne (by decide)).trans (hE 129 (by decide) (by decide))).trans rfl) (by decide) rfl (Nat.le_of_ble_eq_true rfl) (Nat.le_of_ble_eq_true rfl) (Nat.le_of_ble_eq_true rfl) dX4_init_50 (fun H hP hS => ?_)
  refine N_put (E := (uE E 83 (.inr (4, [.ref (gR G 84), .ref (gR G 85), .int 0, .int 0, .int 0, .ref (gR G 126), .ref (gR G 127), .ref (gR G 128), .null])))) (ty := .array .int) (j := 8) (k := 83) C hG hP hS uX4 tyX4 tyX4_ok nmX4 rfl (by decide) wd256 rfl (Or.inr ⟨rfl, hin, rfl⟩) (by decide +kernel) rfl rfl (by decide) uE_at (Nat.le_of_ble_eq_true rfl) dX4_init_52 (fun H locs hP hS => ?_)
  rw [uE2] at hP
  replace hP : Yw G (uE E 83 (.inr (4, [.ref (gR G 84), .ref (gR G 85), .int 0, .int 0, .int 0, .ref (gR G 126), .ref (gR G 127), .ref (gR G 128), .ref (gR G 129)]))) 130 H := hP
  exact N_ret C hr (show Yw G (uE E 83 (cE G 83 (S0 83))) 130 H from hP) hS dX4_init_55
set_option maxRecDepth 20000 in
theorem ciX4_83 (l : Launch) (G : Gt) (E : Nat → va_E) (hE : ∀ j, 83 < j → j < 130 → E j = cE G j (S0 j)) : Met l yX4_init (wm yX4_init cX4_init 1 none) (rmL 2 46 4413) (PcJ G (uE E 83 (.inr (4, [.null, .null, .int 0, .int 0, .int 0, .null, .null, .null, .null]))) 84 [.ref (gR G 83)]) (QN G (uE E 83 (cE G 83 (S0 83))) 130) 46 4413 (Ab G) := by
  refine Met.ofW (cc := cX4_init) (maxL := 1) (ret := none) (by decide) rfl ?_
  intro p e s m args below meth c s₁ B hml hv
  obtain ⟨rfl, hK, hJ, hP⟩ := hv
  have hin : meth.name = "<init>" := (name_of_methodNamed B.named B.method).1
  have C : Cx p s m _ meth c cX4_init 1 RX4 G := ⟨⟨B.exec, B.bytes, hml, findClass_of_methodNamed B.named, fun w hw => atoms_spec (ws := wm yX4_init cX4_init 1 none) B.pre w (List.mem_cons_of_mem _ hw)⟩, B.notSynchronized, hK⟩
  have hl := lv_entry ([.ref (gR G 83)]) (n := 1) (Nat.le_of_ble_eq_true rfl)
  rw [lg_entry_eq]
  generalize (lg_sl ([.ref (gR G 83)]) ++ List.replicate (1 - (lg_sl ([.ref (gR G 83)])).length) Slot.unset).toArray = ls at hl ⊢
  exact sciX4_83 C hJ B.returns hin hE hP va_S.rf hl
end IJ
