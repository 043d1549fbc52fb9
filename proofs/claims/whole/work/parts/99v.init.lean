theorem uE2 {E : Nat → va_E} {k : Nat} {a b : va_E} : uE (uE E k a) k b = uE E k b := by
  funext j
  by_cases c : j = k
  · subst c; rw [uE_at, uE_at]
  · rw [uE_ne c, uE_ne c, uE_ne c]
theorem Yw.fold {G : Gt} {E : Nat → va_E} {q n : Nat} {e : va_E} {H : Heap} (h : Yw G (uE E q e) n H) (he : E q = e) : Yw G E n H := h.ext (fun j _ => by
  by_cases c : j = q
  · subst c; rw [uE_at, he]
  · exact uE_ne c)
section IN
variable {p : Program} {l : Launch} {e : Env} {s : State} {m : MethodId} {args : Array Value} {below : List Frame} {meth : Method} {c : Code} {G : Gt}
set_option maxHeartbeats 4000000 in
set_option maxRecDepth 20000 in
theorem sciX3_13 (C : Cx p s m args meth c cX3_init 2 RX3 G) (hG : Kc G s) (hr : meth.sig.returnType = none) (hin : meth.name = "<init>") {E : Nat → va_E} (hE : ∀ j, 13 < j → j < 15 → E j = cE G j (S0 j)) {H : Heap} {locs : List Loc} {ls : Array Slot} (hP : Yw G (uE E 13 (.inr (3, [.int 0, .null, .int 0, .int 0, .null]))) 14 H) (hS : va_S (Ab G) s.heap H locs) (hl : lv_has ls 2 [(0, .ref (gR G 13)), (1, .ref (gR G 12))]) : W p l e (rmL 2 1 40) s m args below meth c H locs 0 0 (MQ below (QN G (uE E 13 (cE G 13 (S0 13))) 15) args s 1 40 (Ab G)) (F0 m 0 ls []) := by
  have hx := C.1.1
  have hb := C.1.2.1
  refine lv_aload_n hx hb dX3_init_0 rfl (lv_at hl 0 rfl) ?_
  refine N_obj C hl.1 wd44 wd31 wd32 (Nat.le_of_ble_eq_true rfl) (Nat.le_of_ble_eq_true rfl) dX3_init_1 ?_
  refine lv_aload_n hx hb dX3_init_4 rfl (lv_at hl 0 rfl) ?_
  refine lv_bipush (v := 40) hx hb dX3_init_5 rfl ?_
  refine N_newI (E := (uE E 13 (.inr (3, [.int 0, .null, .int 0, .int 0, .null])))) C hG hP hS wd65 (((uE_ne (by decide)).trans (hE 14 (by decide) (by decide))).trans rfl) (by decide) rfl (Nat.le_of_ble_eq_true rfl) (Nat.le_of_ble_eq_true rfl) (Nat.le_of_ble_eq_true rfl) dX3_init_7 (fun H hP hS => ?_)
  refine N_put (E := (uE E 13 (.inr (3, [.int 0, .null, .int 0, .int 0, .null])))) (ty := .array .int) (j := 4) (k := 13) C hG hP hS uX3 tyX3 tyX3_ok nmX3 rfl (by decide) wd52 rfl (Or.inr ⟨rfl, hin, rfl⟩) (by decide +kernel) rfl rfl (by decide) uE_at (Nat.le_of_ble_eq_true rfl) dX3_init_9 (fun H locs hP hS => ?_)
  rw [uE2] at hP
  replace hP : Yw G (uE E 13 (.inr (3, [.int 0, .null, .int 0, .int 0, .ref (gR G 14)]))) 15 H := hP
  refine lv_aload_n hx hb dX3_init_12 rfl (lv_at hl 0 rfl) ?_
  refine lv_aload_n hx hb dX3_init_13 rfl (lv_at hl 1 rfl) ?_
  refine N_put (E := (uE E 13 (.inr (3, [.int 0, .null, .int 0, .int 0, .ref (gR G 14)])))) (ty := .array .int) (j := 1) (k := 13) C hG hP hS uX3 tyX3 tyX3_ok nmX3 rfl (by decide) wd49 rfl (Or.inr ⟨rfl, hin, rfl⟩) (by decide +kernel) rfl rfl (by decide) uE_at (Nat.le_of_ble_eq_true rfl) dX3_init_14 (fun H locs hP hS => ?_)
  rw [uE2] at hP
  replace hP : Yw G (uE E 13 (.inr (3, [.int 0, .ref (gR G 12), .int 0, .int 0, .ref (gR G 14)]))) 15 H := hP
  exact N_ret C hr (show Yw G (uE E 13 (cE G 13 (S0 13))) 15 H from hP) hS dX3_init_17
set_option maxRecDepth 20000 in
theorem ciX3_13 (l : Launch) (G : Gt) (E : Nat → va_E) (hE : ∀ j, 13 < j → j < 15 → E j = cE G j (S0 j)) : Met l yX3_init (wm yX3_init cX3_init 2 none) (rmL 2 1 40) (PcI G (uE E 13 (.inr (3, [.int 0, .null, .int 0, .int 0, .null]))) 14 [.ref (gR G 13), .ref (gR G 12)]) (QN G (uE E 13 (cE G 13 (S0 13))) 15) 1 40 (Ab G) := by
  refine Met.ofW (cc := cX3_init) (maxL := 2) (ret := none) (by decide) rfl ?_
  intro p e s m args below meth c s₁ B hml hv
  obtain ⟨rfl, hK, hG, hP⟩ := hv
  have hin : meth.name = "<init>" := (name_of_methodNamed B.named B.method).1
  have C : Cx p s m _ meth c cX3_init 2 RX3 G := ⟨⟨B.exec, B.bytes, hml, findClass_of_methodNamed B.named, fun w hw => atoms_spec (ws := wm yX3_init cX3_init 2 none) B.pre w (List.mem_cons_of_mem _ hw)⟩, B.notSynchronized, hK⟩
  have hl := lv_entry ([.ref (gR G 13), .ref (gR G 12)]) (n := 2) (Nat.le_of_ble_eq_true rfl)
  rw [lg_entry_eq]
  generalize (lg_sl ([.ref (gR G 13), .ref (gR G 12)]) ++ List.replicate (2 - (lg_sl ([.ref (gR G 13), .ref (gR G 12)])).length) Slot.unset).toArray = ls at hl ⊢
  exact sciX3_13 C hG B.returns hin hE hP va_S.rf hl
set_option maxHeartbeats 4000000 in
set_option maxRecDepth 20000 in
theorem sciX3_15 (C : Cx p s m args meth c cX3_init 2 RX3 G) (hG : Kc G s) (hr : meth.sig.returnType = none) (hin : meth.name = "<init>") {E : Nat → va_E} (hE : ∀ j, 15 < j → j < 17 → E j = cE G j (S0 j)) {H : Heap} {locs : List Loc} {ls : Array Slot} (hP : Yw G (uE E 15 (.inr (3, [.int 0, .null, .int 0, .int 0, .null]))) 16 H) (hS : va_S (Ab G) s.heap H locs) (hl : lv_has ls 2 [(0, .ref (gR G 15)), (1, .ref (gR G 12))]) : W p l e (rmL 2 1 40) s m args below meth c H locs 0 0 (MQ below (QN G (uE E 15 (cE G 15 (S0 15))) 17) args s 1 40 (Ab G)) (F0 m 0 ls []) := by
  have hx := C.1.1
  have hb := C.1.2.1
  refine lv_aload_n hx hb dX3_init_0 rfl (lv_at hl 0 rfl) ?_
  refine N_obj C hl.1 wd44 wd31 wd32 (Nat.le_of_ble_eq_true rfl) (Nat.le_of_ble_eq_true rfl) dX3_init_1 ?_
  refine lv_aload_n hx hb dX3_init_4 rfl (lv_at hl 0 rfl) ?_
  refine lv_bipush (v := 40) hx hb dX3_init_5 rfl ?_
  refine N_newI (E := (uE E 15 (.inr (3, [.int 0, .null, .int 0, .int 0, .null])))) C hG hP hS wd65 (((uE_ne (by decide)).trans (hE 16 (by decide) (by decide))).trans rfl) (by decide) rfl (Nat.le_of_ble_eq_true rfl) (Nat.le_of_ble_eq_true rfl) (Nat.le_of_ble_eq_true rfl) dX3_init_7 (fun H hP hS => ?_)
  refine N_put (E := (uE E 15 (.inr (3, [.int 0, .null, .int 0, .int 0, .null])))) (ty := .array .int) (j := 4) (k := 15) C hG hP hS uX3 tyX3 tyX3_ok nmX3 rfl (by decide) wd52 rfl (Or.inr ⟨rfl, hin, rfl⟩) (by decide +kernel) rfl rfl (by decide) uE_at (Nat.le_of_ble_eq_true rfl) dX3_init_9 (fun H locs hP hS => ?_)
  rw [uE2] at hP
  replace hP : Yw G (uE E 15 (.inr (3, [.int 0, .null, .int 0, .int 0, .ref (gR G 16)]))) 17 H := hP
  refine lv_aload_n hx hb dX3_init_12 rfl (lv_at hl 0 rfl) ?_
  refine lv_aload_n hx hb dX3_init_13 rfl (lv_at hl 1 rfl) ?_
  refine N_put (E := (uE E 15 (.inr (3, [.int 0, .null, .int 0, .int 0, .ref (gR G 16)])))) (ty := .array .int) (j := 1) (k := 15) C hG hP hS uX3 tyX3 tyX3_ok nmX3 rfl (by decide) wd49 rfl (Or.inr ⟨rfl, hin, rfl⟩) (by decide +kernel) rfl rfl (by decide) uE_at (Nat.le_of_ble_eq_true rfl) dX3_init_14 (fun H locs hP hS => ?_)
  rw [uE2] at hP
  replace hP : Yw G (uE E 15 (.inr (3, [.int 0, .ref (gR G 12), .int 0, .int 0, .ref (gR G 16)]))) 17 H := hP
  exact N_ret C hr (show Yw G (uE E 15 (cE G 15 (S0 15))) 17 H from hP) hS dX3_init_17
set_option maxRecDepth 20000 in
theorem ciX3_15 (l : Launch) (G : Gt) (E : Nat → va_E) (hE : ∀ j, 15 < j → j < 17 → E j = cE G j (S0 j)) : Met l yX3_init (wm yX3_init cX3_init 2 none) (rmL 2 1 40) (PcI G (uE E 15 (.inr (3, [.int 0, .null, .int 0, .int 0, .null]))) 16 [.ref (gR G 15), .ref (gR G 12)]) (QN G (uE E 15 (cE G 15 (S0 15))) 17) 1 40 (Ab G) := by
  refine Met.ofW (cc := cX3_init) (maxL := 2) (ret := none) (by decide) rfl ?_
  intro p e s m args below meth c s₁ B hml hv
  obtain ⟨rfl, hK, hG, hP⟩ := hv
  have hin : meth.name = "<init>" := (name_of_methodNamed B.named B.method).1
  have C : Cx p s m _ meth c cX3_init 2 RX3 G := ⟨⟨B.exec, B.bytes, hml, findClass_of_methodNamed B.named, fun w hw => atoms_spec (ws := wm yX3_init cX3_init 2 none) B.pre w (List.mem_cons_of_mem _ hw)⟩, B.notSynchronized, hK⟩
  have hl := lv_entry ([.ref (gR G 15), .ref (gR G 12)]) (n := 2) (Nat.le_of_ble_eq_true rfl)
  rw [lg_entry_eq]
  generalize (lg_sl ([.ref (gR G 15), .ref (gR G 12)]) ++ List.replicate (2 - (lg_sl ([.ref (gR G 15), .ref (gR G 12)])).length) Slot.unset).toArray = ls at hl ⊢
  exact sciX3_15 C hG B.returns hin hE hP va_S.rf hl
set_option maxHeartbeats 4000000 in
set_option maxRecDepth 20000 in
theorem sciX3_28 (C : Cx p s m args meth c cX3_init 2 RX3 G) (hG : Kc G s) (hr : meth.sig.returnType = none) (hin : meth.name = "<init>") {E : Nat → va_E} (hE : ∀ j, 28 < j → j < 30 → E j = cE G j (S0 j)) {H : Heap} {locs : List Loc} {ls : Array Slot} (hP : Yw G (uE E 28 (.inr (3, [.int 0, .null, .int 0, .int 0, .null]))) 29 H) (hS : va_S (Ab G) s.heap H locs) (hl : lv_has ls 2 [(0, .ref (gR G 28)), (1, .ref (gR G 27))]) : W p l e (rmL 2 1 40) s m args below meth c H locs 0 0 (MQ below (QN G (uE E 28 (cE G 28 (S0 28))) 30) args s 1 40 (Ab G)) (F0 m 0 ls []) := by
  have hx := C.1.1
  have hb := C.1.2.1
  refine lv_aload_n hx hb dX3_init_0 rfl (lv_at hl 0 rfl) ?_
  refine N_obj C hl.1 wd44 wd31 wd32 (Nat.le_of_ble_eq_true rfl) (Nat.le_of_ble_eq_true rfl) dX3_init_1 ?_
  refine lv_aload_n hx hb dX3_init_4 rfl (lv_at hl 0 rfl) ?_
  refine lv_bipush (v := 40) hx hb dX3_init_5 rfl ?_
  refine N_newI (E := (uE E 28 (.inr (3, [.int 0, .null, .int 0, .int 0, .null])))) C hG hP hS wd65 (((uE_ne (by decide)).trans (hE 29 (by decide) (by decide))).trans rfl) (by decide) rfl (Nat.le_of_ble_eq_true rfl) (Nat.le_of_ble_eq_true rfl) (Nat.le_of_ble_eq_true rfl) dX3_init_7 (fun H hP hS => ?_)
  refine N_put (E := (uE E 28 (.inr (3, [.int 0, .null, .int 0, .int 0, .null])))) (ty := .array .int) (j := 4) (k := 28) C hG hP hS uX3 tyX3 tyX3_ok nmX3 rfl (by decide) wd52 rfl (Or.inr ⟨rfl, hin, rfl⟩) (by decide +kernel) rfl rfl (by decide) uE_at (Nat.le_of_ble_eq_true rfl) dX3_init_9 (fun H locs hP hS => ?_)
  rw [uE2] at hP
  replace hP : Yw G (uE E 28 (.inr (3, [.int 0, .null, .int 0, .int 0, .ref (gR G 29)]))) 30 H := hP
  refine lv_aload_n hx hb dX3_init_12 rfl (lv_at hl 0 rfl) ?_
  refine lv_aload_n hx hb dX3_init_13 rfl (lv_at hl 1 rfl) ?_
  refine N_put (E := (uE E 28 (.inr (3, [.int 0, .null, .int 0, .int 0, .ref (gR G 29)])))) (ty := .array .int) (j := 1) (k := 28) C hG hP hS uX3 tyX3 tyX3_ok nmX3 rfl (by decide) wd49 rfl (Or.inr ⟨rfl, hin, rfl⟩) (by decide +kernel) rfl rfl (by decide) uE_at (Nat.le_of_ble_eq_true rfl) dX3_init_14 (fun H locs hP hS => ?_)
  rw [uE2] at hP
  replace hP : Yw G (uE E 28 (.inr (3, [.int 0, .ref (gR G 27), .int 0, .int 0, .ref (gR G 29)]))) 30 H := hP
  exact N_ret C hr (show Yw G (uE E 28 (cE G 28 (S0 28))) 30 H from hP) hS dX3_init_17
set_option maxRecDepth 20000 in
theorem ciX3_28 (l : Launch) (G : Gt) (E : Nat → va_E) (hE : ∀ j, 28 < j → j < 30 → E j = cE G j (S0 j)) : Met l yX3_init (wm yX3_init cX3_init 2 none) (rmL 2 1 40) (PcI G (uE E 28 (.inr (3, [.int 0, .null, .int 0, .int 0, .null]))) 29 [.ref (gR G 28), .ref (gR G 27)]) (QN G (uE E 28 (cE G 28 (S0 28))) 30) 1 40 (Ab G) := by
  refine Met.ofW (cc := cX3_init) (maxL := 2) (ret := none) (by decide) rfl ?_
  intro p e s m args below meth c s₁ B hml hv
  obtain ⟨rfl, hK, hG, hP⟩ := hv
  have hin : meth.name = "<init>" := (name_of_methodNamed B.named B.method).1
  have C : Cx p s m _ meth c cX3_init 2 RX3 G := ⟨⟨B.exec, B.bytes, hml, findClass_of_methodNamed B.named, fun w hw => atoms_spec (ws := wm yX3_init cX3_init 2 none) B.pre w (List.mem_cons_of_mem _ hw)⟩, B.notSynchronized, hK⟩
  have hl := lv_entry ([.ref (gR G 28), .ref (gR G 27)]) (n := 2) (Nat.le_of_ble_eq_true rfl)
  rw [lg_entry_eq]
  generalize (lg_sl ([.ref (gR G 28), .ref (gR G 27)]) ++ List.replicate (2 - (lg_sl ([.ref (gR G 28), .ref (gR G 27)])).length) Slot.unset).toArray = ls at hl ⊢
  exact sciX3_28 C hG B.returns hin hE hP va_S.rf hl
set_option maxHeartbeats 4000000 in
set_option maxRecDepth 20000 in
theorem sciX3_30 (C : Cx p s m args meth c cX3_init 2 RX3 G) (hG : Kc G s) (hr : meth.sig.returnType = none) (hin : meth.name = "<init>") {E : Nat → va_E} (hE : ∀ j, 30 < j → j < 32 → E j = cE G j (S0 j)) {H : Heap} {locs : List Loc} {ls : Array Slot} (hP : Yw G (uE E 30 (.inr (3, [.int 0, .null, .int 0, .int 0, .null]))) 31 H) (hS : va_S (Ab G) s.heap H locs) (hl : lv_has ls 2 [(0, .ref (gR G 30)), (1, .ref (gR G 27))]) : W p l e (rmL 2 1 40) s m args below meth c H locs 0 0 (MQ below (QN G (uE E 30 (cE G 30 (S0 30))) 32) args s 1 40 (Ab G)) (F0 m 0 ls []) := by
  have hx := C.1.1
  have hb := C.1.2.1
  refine lv_aload_n hx hb dX3_init_0 rfl (lv_at hl 0 rfl) ?_
  refine N_obj C hl.1 wd44 wd31 wd32 (Nat.le_of_ble_eq_true rfl) (Nat.le_of_ble_eq_true rfl) dX3_init_1 ?_
  refine lv_aload_n hx hb dX3_init_4 rfl (lv_at hl 0 rfl) ?_
  refine lv_bipush (v := 40) hx hb dX3_init_5 rfl ?_
  refine N_newI (E := (uE E 30 (.inr (3, [.int 0, .null, .int 0, .int 0, .null])))) C hG hP hS wd65 (((uE_ne (by decide)).trans (hE 31 (by decide) (by decide))).trans rfl) (by decide) rfl (Nat.le_of_ble_eq_true rfl) (Nat.le_of_ble_eq_true rfl) (Nat.le_of_ble_eq_true rfl) dX3_init_7 (fun H hP hS => ?_)
  refine N_put (E := (uE E 30 (.inr (3, [.int 0, .null, .int 0, .int 0, .null])))) (ty := .array .int) (j := 4) (k := 30) C hG hP hS uX3 tyX3 tyX3_ok nmX3 rfl (by decide) wd52 rfl (Or.inr ⟨rfl, hin, rfl⟩) (by decide +kernel) rfl rfl (by decide) uE_at (Nat.le_of_ble_eq_true rfl) dX3_init_9 (fun H locs hP hS => ?_)
  rw [uE2] at hP
  replace hP : Yw G (uE E 30 (.inr (3, [.int 0, .null, .int 0, .int 0, .ref (gR G 31)]))) 32 H := hP
  refine lv_aload_n hx hb dX3_init_12 rfl (lv_at hl 0 rfl) ?_
  refine lv_aload_n hx hb dX3_init_13 rfl (lv_at hl 1 rfl) ?_
  refine N_put (E := (uE E 30 (.inr (3, [.int 0, .null, .int 0, .int 0, .ref (gR G 31)])))) (ty := .array .int) (j := 1) (k := 30) C hG hP hS uX3 tyX3 tyX3_ok nmX3 rfl (by decide) wd49 rfl (Or.inr ⟨rfl, hin, rfl⟩) (by decide +kernel) rfl rfl (by decide) uE_at (Nat.le_of_ble_eq_true rfl) dX3_init_14 (fun H locs hP hS => ?_)
  rw [uE2] at hP
  replace hP : Yw G (uE E 30 (.inr (3, [.int 0, .ref (gR G 27), .int 0, .int 0, .ref (gR G 31)]))) 32 H := hP
  exact N_ret C hr (show Yw G (uE E 30 (cE G 30 (S0 30))) 32 H from hP) hS dX3_init_17
set_option maxRecDepth 20000 in
theorem ciX3_30 (l : Launch) (G : Gt) (E : Nat → va_E) (hE : ∀ j, 30 < j → j < 32 → E j = cE G j (S0 j)) : Met l yX3_init (wm yX3_init cX3_init 2 none) (rmL 2 1 40) (PcI G (uE E 30 (.inr (3, [.int 0, .null, .int 0, .int 0, .null]))) 31 [.ref (gR G 30), .ref (gR G 27)]) (QN G (uE E 30 (cE G 30 (S0 30))) 32) 1 40 (Ab G) := by
  refine Met.ofW (cc := cX3_init) (maxL := 2) (ret := none) (by decide) rfl ?_
  intro p e s m args below meth c s₁ B hml hv
  obtain ⟨rfl, hK, hG, hP⟩ := hv
  have hin : meth.name = "<init>" := (name_of_methodNamed B.named B.method).1
  have C : Cx p s m _ meth c cX3_init 2 RX3 G := ⟨⟨B.exec, B.bytes, hml, findClass_of_methodNamed B.named, fun w hw => atoms_spec (ws := wm yX3_init cX3_init 2 none) B.pre w (List.mem_cons_of_mem _ hw)⟩, B.notSynchronized, hK⟩
  have hl := lv_entry ([.ref (gR G 30), .ref (gR G 27)]) (n := 2) (Nat.le_of_ble_eq_true rfl)
  rw [lg_entry_eq]
  generalize (lg_sl ([.ref (gR G 30), .ref (gR G 27)]) ++ List.replicate (2 - (lg_sl ([.ref (gR G 30), .ref (gR G 27)])).length) Slot.unset).toArray = ls at hl ⊢
  exact sciX3_30 C hG B.returns hin hE hP va_S.rf hl
theorem kIX8_41 : CIw RX8 41 yX3_init cX3_init 2 1 := ⟨wd41, wd42, wd3, wd43, rfl, by decide +kernel⟩
set_option maxHeartbeats 4000000 in
set_option maxRecDepth 20000 in
theorem sciX8_2 (C : Cx p s m args meth c cX8_init 2 RX8 G) (hG : Kc G s) (hr : meth.sig.returnType = none) (hin : meth.name = "<init>") {E : Nat → va_E} (hE : ∀ j, 2 < j → j < 17 → E j = cE G j (S0 j)) {H : Heap} {locs : List Loc} {ls : Array Slot} (hP : Yw G (uE E 2 (.inr (8, [.int 0, .int 0, .int 0, .null, .null, .null, .null, .null, .null, .null, .null, .null, .null, .null]))) 3 H) (hS : va_S (Ab G) s.heap H locs) (hl : lv_has ls 2 [(0, .ref (gR G 2))]) : W p l e (rmL 3 14 983) s m args below meth c H locs 0 0 (MQ below (QN G (uE E 2 (cE G 2 (S0 2))) 17) args s 14 983 (Ab G)) (F0 m 0 ls []) := by
  have hx := C.1.1
  have hb := C.1.2.1
  refine lv_aload_n hx hb dX8_init_0 rfl (lv_at hl 0 rfl) ?_
  refine N_obj C hl.1 wd38 wd31 wd32 (Nat.le_of_ble_eq_true rfl) (Nat.le_of_ble_eq_true rfl) dX8_init_1 ?_
  refine lv_aload_n hx hb dX8_init_4 rfl (lv_at hl 0 rfl) ?_
  refine lv_bipush (v := 8) hx hb dX8_init_5 rfl ?_
  refine N_newI (E := (uE E 2 (.inr (8, [.int 0, .int 0, .int 0, .null, .null, .null, .null, .null, .null, .null, .null, .null, .null, .null])))) C hG hP hS wd65 (((uE_ne (by decide)).trans (hE 3 (by decide) (by decide))).trans rfl) (by decide) rfl (Nat.le_of_ble_eq_true rfl) (Nat.le_of_ble_eq_true rfl) (Nat.le_of_ble_eq_true rfl) dX8_init_7 (fun H hP hS => ?_)
  refine N_put (E := (uE E 2 (.inr (8, [.int 0, .int 0, .int 0, .null, .null, .null, .null, .null, .null, .null, .null, .null, .null, .null])))) (ty := .array .int) (j := 3) (k := 2) C hG hP hS uX8 tyX8 tyX8_ok nmX8 rfl (by decide) wd81 rfl (Or.inr ⟨rfl, hin, rfl⟩) (by decide +kernel) rfl rfl (by decide) uE_at (Nat.le_of_ble_eq_true rfl) dX8_init_9 (fun H locs hP hS => ?_)
  rw [uE2] at hP
  replace hP : Yw G (uE E 2 (.inr (8, [.int 0, .int 0, .int 0, .ref (gR G 3), .null, .null, .null, .null, .null, .null, .null, .null, .null, .null]))) 4 H := hP
  refine lv_aload_n hx hb dX8_init_12 rfl (lv_at hl 0 rfl) ?_
  refine lv_bipush (v := 8) hx hb dX8_init_13 rfl ?_
  refine N_newI (E := (uE E 2 (.inr (8, [.int 0, .int 0, .int 0, .ref (gR G 3), .null, .null, .null, .null, .null, .null, .null, .null, .null, .null])))) C hG hP hS wd65 (((uE_ne (by decide)).trans (hE 4 (by decide) (by decide))).trans rfl) (by decide) rfl (Nat.le_of_ble_eq_true rfl) (Nat.le_of_ble_eq_true rfl) (Nat.le_of_ble_eq_true rfl) dX8_init_15 (fun H hP hS => ?_)
  refine N_put (E := (uE E 2 (.inr (8, [.int 0, .int 0, .int 0, .ref (gR G 3), .null, .null, .null, .null, .null, .null, .null, .null, .null, .null])))) (ty := .array .int) (j := 4) (k := 2) C hG hP hS uX8 tyX8 tyX8_ok nmX8 rfl (by decide) wd86 rfl (Or.inr ⟨rfl, hin, rfl⟩) (by decide +kernel) rfl rfl (by decide) uE_at (Nat.le_of_ble_eq_true rfl) dX8_init_17 (fun H locs hP hS => ?_)
  rw [uE2] at hP
  replace hP : Yw G (uE E 2 (.inr (8, [.int 0, .int 0, .int 0, .ref (gR G 3), .ref (gR G 4), .null, .null, .null, .null, .null, .null, .null, .null, .null]))) 5 H := hP
  refine lv_aload_n hx hb dX8_init_20 rfl (lv_at hl 0 rfl) ?_
  refine lv_bipush (v := 48) hx hb dX8_init_21 rfl ?_
  refine N_newI (E := (uE E 2 (.inr (8, [.int 0, .int 0, .int 0, .ref (gR G 3), .ref (gR G 4), .null, .null, .null, .null, .null, .null, .null, .null, .null])))) C hG hP hS wd65 (((uE_ne (by decide)).trans (hE 5 (by decide) (by decide))).trans rfl) (by decide) rfl (Nat.le_of_ble_eq_true rfl) (Nat.le_of_ble_eq_true rfl) (Nat.le_of_ble_eq_true rfl) dX8_init_23 (fun H hP hS => ?_)
  refine N_put (E := (uE E 2 (.inr (8, [.int 0, .int 0, .int 0, .ref (gR G 3), .ref (gR G 4), .null, .null, .null, .null, .null, .null, .null, .null, .null])))) (ty := .array .int) (j := 5) (k := 2) C hG hP hS uX8 tyX8 tyX8_ok nmX8 rfl (by decide) wd91 rfl (Or.inr ⟨rfl, hin, rfl⟩) (by decide +kernel) rfl rfl (by decide) uE_at (Nat.le_of_ble_eq_true rfl) dX8_init_25 (fun H locs hP hS => ?_)
  rw [uE2] at hP
  replace hP : Yw G (uE E 2 (.inr (8, [.int 0, .int 0, .int 0, .ref (gR G 3), .ref (gR G 4), .ref (gR G 5), .null, .null, .null, .null, .null, .null, .null, .null]))) 6 H := hP
  refine lv_aload_n hx hb dX8_init_28 rfl (lv_at hl 0 rfl) ?_
  refine lv_bipush (v := 8) hx hb dX8_init_29 rfl ?_
  refine N_newI (E := (uE E 2 (.inr (8, [.int 0, .int 0, .int 0, .ref (gR G 3), .ref (gR G 4), .ref (gR G 5), .null, .null, .null, .null, .null, .null, .null, .null])))) C hG hP hS wd65 (((uE_ne (by decide)).trans (hE 6 (by decide) (by decide))).trans rfl) (by decide) rfl (Nat.le_of_ble_eq_true rfl) (Nat.le_of_ble_eq_true rfl) (Nat.le_of_ble_eq_true rfl) dX8_init_31 (fun H hP hS => ?_)
  refine N_put (E := (uE E 2 (.inr (8, [.int 0, .int 0, .int 0, .ref (gR G 3), .ref (gR G 4), .ref (gR G 5), .null, .null, .null, .null, .null, .null, .null, .null])))) (ty := .array .int) (j := 6) (k := 2) C hG hP hS uX8 tyX8 tyX8_ok nmX8 rfl (by decide) wd95 rfl (Or.inr ⟨rfl, hin, rfl⟩) (by decide +kernel) rfl rfl (by decide) uE_at (Nat.le_of_ble_eq_true rfl) dX8_init_33 (fun H locs hP hS => ?_)
  rw [uE2] at hP
  replace hP : Yw G (uE E 2 (.inr (8, [.int 0, .int 0, .int 0, .ref (gR G 3), .ref (gR G 4), .ref (gR G 5), .ref (gR G 6), .null, .null, .null, .null, .null, .null, .null]))) 7 H := hP
  refine lv_aload_n hx hb dX8_init_36 rfl (lv_at hl 0 rfl) ?_
  refine lv_bipush (v := 64) hx hb dX8_init_37 rfl ?_
  refine N_newI (E := (uE E 2 (.inr (8, [.int 0, .int 0, .int 0, .ref (gR G 3), .ref (gR G 4), .ref (gR G 5), .ref (gR G 6), .null, .null, .null, .null, .null, .null, .null])))) C hG hP hS wd65 (((uE_ne (by decide)).trans (hE 7 (by decide) (by decide))).trans rfl) (by decide) rfl (Nat.le_of_ble_eq_true rfl) (Nat.le_of_ble_eq_true rfl) (Nat.le_of_ble_eq_true rfl) dX8_init_39 (fun H hP hS => ?_)
  refine N_put (E := (uE E 2 (.inr (8, [.int 0, .int 0, .int 0, .ref (gR G 3), .ref (gR G 4), .ref (gR G 5), .ref (gR G 6), .null, .null, .null, .null, .null, .null, .null])))) (ty := .array .int) (j := 7) (k := 2) C hG hP hS uX8 tyX8 tyX8_ok nmX8 rfl (by decide) wd99 rfl (Or.inr ⟨rfl, hin, rfl⟩) (by decide +kernel) rfl rfl (by decide) uE_at (Nat.le_of_ble_eq_true rfl) dX8_init_41 (fun H locs hP hS => ?_)
  rw [uE2] at hP
  replace hP : Yw G (uE E 2 (.inr (8, [.int 0, .int 0, .int 0, .ref (gR G 3), .ref (gR G 4), .ref (gR G 5), .ref (gR G 6), .ref (gR G 7), .null, .null, .null, .null, .null, .null]))) 8 H := hP
  refine lv_aload_n hx hb dX8_init_44 rfl (lv_at hl 0 rfl) ?_
  refine lv_bipush (v := 6) hx hb dX8_init_45 rfl ?_
  refine N_newI (E := (uE E 2 (.inr (8, [.int 0, .int 0, .int 0, .ref (gR G 3), .ref (gR G 4), .ref (gR G 5), .ref (gR G 6), .ref (gR G 7), .null, .null, .null, .null, .null, .null])))) C hG hP hS wd65 (((uE_ne (by decide)).trans (hE 8 (by decide) (by decide))).trans rfl) (by decide) rfl (Nat.le_of_ble_eq_true rfl) (Nat.le_of_ble_eq_true rfl) (Nat.le_of_ble_eq_true rfl) dX8_init_47 (fun H hP hS => ?_)
  refine N_put (E := (uE E 2 (.inr (8, [.int 0, .int 0, .int 0, .ref (gR G 3), .ref (gR G 4), .ref (gR G 5), .ref (gR G 6), .ref (gR G 7), .null, .null, .null, .null, .null, .null])))) (ty := .array .int) (j := 8) (k := 2) C hG hP hS uX8 tyX8 tyX8_ok nmX8 rfl (by decide) wd103 rfl (Or.inr ⟨rfl, hin, rfl⟩) (by decide +kernel) rfl rfl (by decide) uE_at (Nat.le_of_ble_eq_true rfl) dX8_init_49 (fun H locs hP hS => ?_)
  rw [uE2] at hP
  replace hP : Yw G (uE E 2 (.inr (8, [.int 0, .int 0, .int 0, .ref (gR G 3), .ref (gR G 4), .ref (gR G 5), .ref (gR G 6), .ref (gR G 7), .ref (gR G 8), .null, .null, .null, .null, .null]))) 9 H := hP
  refine lv_aload_n hx hb dX8_init_52 rfl (lv_at hl 0 rfl) ?_
  refine lv_bipush (v := 36) hx hb dX8_init_53 rfl ?_
  refine N_newI (E := (uE E 2 (.inr (8, [.int 0, .int 0, .int 0, .ref (gR G 3), .ref (gR G 4), .ref (gR G 5), .ref (gR G 6), .ref (gR G 7), .ref (gR G 8), .null, .null, .null, .null, .null])))) C hG hP hS wd65 (((uE_ne (by decide)).trans (hE 9 (by decide) (by decide))).trans rfl) (by decide) rfl (Nat.le_of_ble_eq_true rfl) (Nat.le_of_ble_eq_true rfl) (Nat.le_of_ble_eq_true rfl) dX8_init_55 (fun H hP hS => ?_)
  refine N_put (E := (uE E 2 (.inr (8, [.int 0, .int 0, .int 0, .ref (gR G 3), .ref (gR G 4), .ref (gR G 5), .ref (gR G 6), .ref (gR G 7), .ref (gR G 8), .null, .null, .null, .null, .null])))) (ty := .array .int) (j := 9) (k := 2) C hG hP hS uX8 tyX8 tyX8_ok nmX8 rfl (by decide) wd107 rfl (Or.inr ⟨rfl, hin, rfl⟩) (by decide +kernel) rfl rfl (by decide) uE_at (Nat.le_of_ble_eq_true rfl) dX8_init_57 (fun H locs hP hS => ?_)
  rw [uE2] at hP
  replace hP : Yw G (uE E 2 (.inr (8, [.int 0, .int 0, .int 0, .ref (gR G 3), .ref (gR G 4), .ref (gR G 5), .ref (gR G 6), .ref (gR G 7), .ref (gR G 8), .ref (gR G 9), .null, .null, .null, .null]))) 10 H := hP
  refine lv_aload_n hx hb dX8_init_60 rfl (lv_at hl 0 rfl) ?_
  refine lv_bipush (v := 6) hx hb dX8_init_61 rfl ?_
  refine N_newI (E := (uE E 2 (.inr (8, [.int 0, .int 0, .int 0, .ref (gR G 3), .ref (gR G 4), .ref (gR G 5), .ref (gR G 6), .ref (gR G 7), .ref (gR G 8), .ref (gR G 9), .null, .null, .null, .null])))) C hG hP hS wd65 (((uE_ne (by decide)).trans (hE 10 (by decide) (by decide))).trans rfl) (by decide) rfl (Nat.le_of_ble_eq_true rfl) (Nat.le_of_ble_eq_true rfl) (Nat.le_of_ble_eq_true rfl) dX8_init_63 (fun H hP hS => ?_)
  refine N_put (E := (uE E 2 (.inr (8, [.int 0, .int 0, .int 0, .ref (gR G 3), .ref (gR G 4), .ref (gR G 5), .ref (gR G 6), .ref (gR G 7), .ref (gR G 8), .ref (gR G 9), .null, .null, .null, .null])))) (ty := .array .int) (j := 10) (k := 2) C hG hP hS uX8 tyX8 tyX8_ok nmX8 rfl (by decide) wd110 rfl (Or.inr ⟨rfl, hin, rfl⟩) (by decide +kernel) rfl rfl (by decide) uE_at (Nat.le_of_ble_eq_true rfl) dX8_init_65 (fun H locs hP hS => ?_)
  rw [uE2] at hP
  replace hP : Yw G (uE E 2 (.inr (8, [.int 0, .int 0, .int 0, .ref (gR G 3), .ref (gR G 4), .ref (gR G 5), .ref (gR G 6), .ref (gR G 7), .ref (gR G 8), .ref (gR G 9), .ref (gR G 10), .null, .null, .null]))) 11 H := hP
  refine lv_aload_n hx hb dX8_init_68 rfl (lv_at hl 0 rfl) ?_
  refine lv_bipush (v := 8) hx hb dX8_init_69 rfl ?_
  refine N_newI (E := (uE E 2 (.inr (8, [.int 0, .int 0, .int 0, .ref (gR G 3), .ref (gR G 4), .ref (gR G 5), .ref (gR G 6), .ref (gR G 7), .ref (gR G 8), .ref (gR G 9), .ref (gR G 10), .null, .null, .null])))) C hG hP hS wd65 (((uE_ne (by decide)).trans (hE 11 (by decide) (by decide))).trans rfl) (by decide) rfl (Nat.le_of_ble_eq_true rfl) (Nat.le_of_ble_eq_true rfl) (Nat.le_of_ble_eq_true rfl) dX8_init_71 (fun H hP hS => ?_)
  refine N_put (E := (uE E 2 (.inr (8, [.int 0, .int 0, .int 0, .ref (gR G 3), .ref (gR G 4), .ref (gR G 5), .ref (gR G 6), .ref (gR G 7), .ref (gR G 8), .ref (gR G 9), .ref (gR G 10), .null, .null, .null])))) (ty := .array .int) (j := 11) (k := 2) C hG hP hS uX8 tyX8 tyX8_ok nmX8 rfl (by decide) wd113 rfl (Or.inr ⟨rfl, hin, rfl⟩) (by decide +kernel) rfl rfl (by decide) uE_at (Nat.le_of_ble_eq_true rfl) dX8_init_73 (fun H locs hP hS => ?_)
  rw [uE2] at hP
  replace hP : Yw G (uE E 2 (.inr (8, [.int 0, .int 0, .int 0, .ref (gR G 3), .ref (gR G 4), .ref (gR G 5), .ref (gR G 6), .ref (gR G 7), .ref (gR G 8), .ref (gR G 9), .ref (gR G 10), .ref (gR G 11), .null, .null]))) 12 H := hP
  refine lv_sipush (v := 701) hx hb dX8_init_76 rfl ?_
  refine N_newI (E := (uE E 2 (.inr (8, [.int 0, .int 0, .int 0, .ref (gR G 3), .ref (gR G 4), .ref (gR G 5), .ref (gR G 6), .ref (gR G 7), .ref (gR G 8), .ref (gR G 9), .ref (gR G 10), .ref (gR G 11), .null, .null])))) C hG hP hS wd65 (((uE_ne (by decide)).trans (hE 12 (by decide) (by decide))).trans rfl) (by decide) rfl (Nat.le_of_ble_eq_true rfl) (Nat.le_of_ble_eq_true rfl) (Nat.le_of_ble_eq_true rfl) dX8_init_79 (fun H hP hS => ?_)
  refine lv_astore_n hx hb dX8_init_81 rfl hl (by decide) rfl (fun ls hl => ?_)
  refine lv_aload_n hx hb dX8_init_82 rfl (lv_at hl 1 rfl) ?_
  refine N_new (E := (uE E 2 (.inr (8, [.int 0, .int 0, .int 0, .ref (gR G 3), .ref (gR G 4), .ref (gR G 5), .ref (gR G 6), .ref (gR G 7), .ref (gR G 8), .ref (gR G 9), .ref (gR G 10), .ref (gR G 11), .null, .null])))) (ci := 3) (fs := [.int 0, .null, .int 0, .int 0, .null]) C hG hP hS uX3 tyX3 tyX3_ok rfl wd39 wd40 wd3 (fun j hj => by match j, hj with | 0, _ => rfl | 1, _ => rfl | 2, _ => rfl | 3, _ => rfl | 4, _ => rfl | (z + 5), h => exact absurd h (by omega)) (Nat.le_of_ble_eq_true rfl) (Nat.le_of_ble_eq_true rfl) dX8_init_83 (fun H hP hS => ?_)
  refine lv_dup hx hb dX8_init_86 rfl ?_
  refine lv_aload_n hx hb dX8_init_87 rfl (lv_at hl 0 rfl) ?_
  refine N_ci (k := 13) (rest := [.ref (gR G 13), .ref (gR G 2)]) (As := [.ref (gR G 12)]) C hG hP hS (ciX3_13 l G (uE E 2 (.inr (8, [.int 0, .int 0, .int 0, .ref (gR G 3), .ref (gR G 4), .ref (gR G 5), .ref (gR G 6), .ref (gR G 7), .ref (gR G 8), .ref (gR G 9), .ref (gR G 10), .ref (gR G 11), .null, .null]))) (fun j h1 h2 => (uE_ne (by omega)).trans (hE j (by omega) (by omega)))) kIX8_41 hl.1 ⟨by decide, by decide⟩ rfl rfl (Nat.le_of_ble_eq_true rfl) dX8_init_88 ⟨(Nat.le_of_ble_eq_true rfl), (Nat.le_of_ble_eq_true rfl)⟩ (fun H locs hP hS => ?_)
  replace hP := hP.fold ((uE_ne (by decide)).trans (hE 13 (by decide) (by decide)))
  refine N_put (E := (uE E 2 (.inr (8, [.int 0, .int 0, .int 0, .ref (gR G 3), .ref (gR G 4), .ref (gR G 5), .ref (gR G 6), .ref (gR G 7), .ref (gR G 8), .ref (gR G 9), .ref (gR G 10), .ref (gR G 11), .null, .null])))) (ty := .object "SongFields$Rule") (j := 12) (k := 2) C hG hP hS uX8 tyX8 tyX8_ok nmX8 rfl (by decide) wd116 rfl (Or.inr ⟨rfl, hin, rfl⟩) (by decide +kernel) rfl rfl (by decide) uE_at (Nat.le_of_ble_eq_true rfl) dX8_init_91 (fun H locs hP hS => ?_)
  rw [uE2] at hP
  replace hP : Yw G (uE E 2 (.inr (8, [.int 0, .int 0, .int 0, .ref (gR G 3), .ref (gR G 4), .ref (gR G 5), .ref (gR G 6), .ref (gR G 7), .ref (gR G 8), .ref (gR G 9), .ref (gR G 10), .ref (gR G 11), .ref (gR G 13), .null]))) 15 H := hP
  refine lv_aload_n hx hb dX8_init_94 rfl (lv_at hl 1 rfl) ?_
  refine N_new (E := (uE E 2 (.inr (8, [.int 0, .int 0, .int 0, .ref (gR G 3), .ref (gR G 4), .ref (gR G 5), .ref (gR G 6), .ref (gR G 7), .ref (gR G 8), .ref (gR G 9), .ref (gR G 10), .ref (gR G 11), .ref (gR G 13), .null])))) (ci := 3) (fs := [.int 0, .null, .int 0, .int 0, .null]) C hG hP hS uX3 tyX3 tyX3_ok rfl wd39 wd40 wd3 (fun j hj => by match j, hj with | 0, _ => rfl | 1, _ => rfl | 2, _ => rfl | 3, _ => rfl | 4, _ => rfl | (z + 5), h => exact absurd h (by omega)) (Nat.le_of_ble_eq_true rfl) (Nat.le_of_ble_eq_true rfl) dX8_init_95 (fun H hP hS => ?_)
  refine lv_dup hx hb dX8_init_98 rfl ?_
  refine lv_aload_n hx hb dX8_init_99 rfl (lv_at hl 0 rfl) ?_
  refine N_ci (k := 15) (rest := [.ref (gR G 15), .ref (gR G 2)]) (As := [.ref (gR G 12)]) C hG hP hS (ciX3_15 l G (uE E 2 (.inr (8, [.int 0, .int 0, .int 0, .ref (gR G 3), .ref (gR G 4), .ref (gR G 5), .ref (gR G 6), .ref (gR G 7), .ref (gR G 8), .ref (gR G 9), .ref (gR G 10), .ref (gR G 11), .ref (gR G 13), .null]))) (fun j h1 h2 => (uE_ne (by omega)).trans (hE j (by omega) (by omega)))) kIX8_41 hl.1 ⟨by decide, by decide⟩ rfl rfl (Nat.le_of_ble_eq_true rfl) dX8_init_100 ⟨(Nat.le_of_ble_eq_true rfl), (Nat.le_of_ble_eq_true rfl)⟩ (fun H locs hP hS => ?_)
  replace hP := hP.fold ((uE_ne (by decide)).trans (hE 15 (by decide) (by decide)))
  refine N_put (E := (uE E 2 (.inr (8, [.int 0, .int 0, .int 0, .ref (gR G 3), .ref (gR G 4), .ref (gR G 5), .ref (gR G 6), .ref (gR G 7), .ref (gR G 8), .ref (gR G 9), .ref (gR G 10), .ref (gR G 11), .ref (gR G 13), .null])))) (ty := .object "SongFields$Rule") (j := 13) (k := 2) C hG hP hS uX8 tyX8 tyX8_ok nmX8 rfl (by decide) wd119 rfl (Or.inr ⟨rfl, hin, rfl⟩) (by decide +kernel) rfl rfl (by decide) uE_at (Nat.le_of_ble_eq_true rfl) dX8_init_103 (fun H locs hP hS => ?_)
  rw [uE2] at hP
  replace hP : Yw G (uE E 2 (.inr (8, [.int 0, .int 0, .int 0, .ref (gR G 3), .ref (gR G 4), .ref (gR G 5), .ref (gR G 6), .ref (gR G 7), .ref (gR G 8), .ref (gR G 9), .ref (gR G 10), .ref (gR G 11), .ref (gR G 13), .ref (gR G 15)]))) 17 H := hP
  exact N_ret C hr (show Yw G (uE E 2 (cE G 2 (S0 2))) 17 H from hP) hS dX8_init_106
set_option maxRecDepth 20000 in
theorem ciX8_2 (l : Launch) (G : Gt) (E : Nat → va_E) (hE : ∀ j, 2 < j → j < 17 → E j = cE G j (S0 j)) : Met l yX8_init (wm yX8_init cX8_init 2 none) (rmL 3 14 983) (PcI G (uE E 2 (.inr (8, [.int 0, .int 0, .int 0, .null, .null, .null, .null, .null, .null, .null, .null, .null, .null, .null]))) 3 [.ref (gR G 2)]) (QN G (uE E 2 (cE G 2 (S0 2))) 17) 14 983 (Ab G) := by
  refine Met.ofW (cc := cX8_init) (maxL := 2) (ret := none) (by decide) rfl ?_
  intro p e s m args below meth c s₁ B hml hv
  obtain ⟨rfl, hK, hG, hP⟩ := hv
  have hin : meth.name = "<init>" := (name_of_methodNamed B.named B.method).1
  have C : Cx p s m _ meth c cX8_init 2 RX8 G := ⟨⟨B.exec, B.bytes, hml, findClass_of_methodNamed B.named, fun w hw => atoms_spec (ws := wm yX8_init cX8_init 2 none) B.pre w (List.mem_cons_of_mem _ hw)⟩, B.notSynchronized, hK⟩
  have hl := lv_entry ([.ref (gR G 2)]) (n := 2) (Nat.le_of_ble_eq_true rfl)
  rw [lg_entry_eq]
  generalize (lg_sl ([.ref (gR G 2)]) ++ List.replicate (2 - (lg_sl ([.ref (gR G 2)])).length) Slot.unset).toArray = ls at hl ⊢
  exact sciX8_2 C hG B.returns hin hE hP va_S.rf hl
set_option maxHeartbeats 4000000 in
set_option maxRecDepth 20000 in
theorem sciX8_17 (C : Cx p s m args meth c cX8_init 2 RX8 G) (hG : Kc G s) (hr : meth.sig.returnType = none) (hin : meth.name = "<init>") {E : Nat → va_E} (hE : ∀ j, 17 < j → j < 32 → E j = cE G j (S0 j)) {H : Heap} {locs : List Loc} {ls : Array Slot} (hP : Yw G (uE E 17 (.inr (8, [.int 0, .int 0, .int 0, .null, .null, .null, .null, .null, .null, .null, .null, .null, .null, .null]))) 18 H) (hS : va_S (Ab G) s.heap H locs) (hl : lv_has ls 2 [(0, .ref (gR G 17))]) : W p l e (rmL 3 14 983) s m args below meth c H locs 0 0 (MQ below (QN G (uE E 17 (cE G 17 (S0 17))) 32) args s 14 983 (Ab G)) (F0 m 0 ls []) := by
  have hx := C.1.1
  have hb := C.1.2.1
  refine lv_aload_n hx hb dX8_init_0 rfl (lv_at hl 0 rfl) ?_
  refine N_obj C hl.1 wd38 wd31 wd32 (Nat.le_of_ble_eq_true rfl) (Nat.le_of_ble_eq_true rfl) dX8_init_1 ?_
  refine lv_aload_n hx hb dX8_init_4 rfl (lv_at hl 0 rfl) ?_
  refine lv_bipush (v := 8) hx hb dX8_init_5 rfl ?_
  refine N_newI (E := (uE E 17 (.inr (8, [.int 0, .int 0, .int 0, .null, .null, .null, .null, .null, .null, .null, .null, .null, .null, .null])))) C hG hP hS wd65 (((uE_ne (by decide)).trans (hE 18 (by decide) (by decide))).trans rfl) (by decide) rfl (Nat.le_of_ble_eq_true rfl) (Nat.le_of_ble_eq_true rfl) (Nat.le_of_ble_eq_true rfl) dX8_init_7 (fun H hP hS => ?_)
  refine N_put (E := (uE E 17 (.inr (8, [.int 0, .int 0, .int 0, .null, .null, .null, .null, .null, .null, .null, .null, .null, .null, .null])))) (ty := .array .int) (j := 3) (k := 17) C hG hP hS uX8 tyX8 tyX8_ok nmX8 rfl (by decide) wd81 rfl (Or.inr ⟨rfl, hin, rfl⟩) (by decide +kernel) rfl rfl (by decide) uE_at (Nat.le_of_ble_eq_true rfl) dX8_init_9 (fun H locs hP hS => ?_)
  rw [uE2] at hP
  replace hP : Yw G (uE E 17 (.inr (8, [.int 0, .int 0, .int 0, .ref (gR G 18), .null, .null, .null, .null, .null, .null, .null, .null, .null, .null]))) 19 H := hP
  refine lv_aload_n hx hb dX8_init_12 rfl (lv_at hl 0 rfl) ?_
  refine lv_bipush (v := 8) hx hb dX8_init_13 rfl ?_
  refine N_newI (E := (uE E 17 (.inr (8, [.int 0, .int 0, .int 0, .ref (gR G 18), .null, .null, .null, .null, .null, .null, .null, .null, .null, .null])))) C hG hP hS wd65 (((uE_ne (by decide)).trans (hE 19 (by decide) (by decide))).trans rfl) (by decide) rfl (Nat.le_of_ble_eq_true rfl) (Nat.le_of_ble_eq_true rfl) (Nat.le_of_ble_eq_true rfl) dX8_init_15 (fun H hP hS => ?_)
  refine N_put (E := (uE E 17 (.inr (8, [.int 0, .int 0, .int 0, .ref (gR G 18), .null, .null, .null, .null, .null, .null, .null, .null, .null, .null])))) (ty := .array .int) (j := 4) (k := 17) C hG hP hS uX8 tyX8 tyX8_ok nmX8 rfl (by decide) wd86 rfl (Or.inr ⟨rfl, hin, rfl⟩) (by decide +kernel) rfl rfl (by decide) uE_at (Nat.le_of_ble_eq_true rfl) dX8_init_17 (fun H locs hP hS => ?_)
  rw [uE2] at hP
  replace hP : Yw G (uE E 17 (.inr (8, [.int 0, .int 0, .int 0, .ref (gR G 18), .ref (gR G 19), .null, .null, .null, .null, .null, .null, .null, .null, .null]))) 20 H := hP
  refine lv_aload_n hx hb dX8_init_20 rfl (lv_at hl 0 rfl) ?_
  refine lv_bipush (v := 48) hx hb dX8_init_21 rfl ?_
  refine N_newI (E := (uE E 17 (.inr (8, [.int 0, .int 0, .int 0, .ref (gR G 18), .ref (gR G 19), .null, .null, .null, .null, .null, .null, .null, .null, .null])))) C hG hP hS wd65 (((uE_ne (by decide)).trans (hE 20 (by decide) (by decide))).trans rfl) (by decide) rfl (Nat.le_of_ble_eq_true rfl) (Nat.le_of_ble_eq_true rfl) (Nat.le_of_ble_eq_true rfl) dX8_init_23 (fun H hP hS => ?_)
  refine N_put (E := (uE E 17 (.inr (8, [.int 0, .int 0, .int 0, .ref (gR G 18), .ref (gR G 19), .null, .null, .null, .null, .null, .null, .null, .null, .null])))) (ty := .array .int) (j := 5) (k := 17) C hG hP hS uX8 tyX8 tyX8_ok nmX8 rfl (by decide) wd91 rfl (Or.inr ⟨rfl, hin, rfl⟩) (by decide +kernel) rfl rfl (by decide) uE_at (Nat.le_of_ble_eq_true rfl) dX8_init_25 (fun H locs hP hS => ?_)
  rw [uE2] at hP
  replace hP : Yw G (uE E 17 (.inr (8, [.int 0, .int 0, .int 0, .ref (gR G 18), .ref (gR G 19), .ref (gR G 20), .null, .null, .null, .null, .null, .null, .null, .null]))) 21 H := hP
  refine lv_aload_n hx hb dX8_init_28 rfl (lv_at hl 0 rfl) ?_
  refine lv_bipush (v := 8) hx hb dX8_init_29 rfl ?_
  refine N_newI (E := (uE E 17 (.inr (8, [.int 0, .int 0, .int 0, .ref (gR G 18), .ref (gR G 19), .ref (gR G 20), .null, .null, .null, .null, .null, .null, .null, .null])))) C hG hP hS wd65 (((uE_ne (by decide)).trans (hE 21 (by decide) (by decide))).trans rfl) (by decide) rfl (Nat.le_of_ble_eq_true rfl) (Nat.le_of_ble_eq_true rfl) (Nat.le_of_ble_eq_true rfl) dX8_init_31 (fun H hP hS => ?_)
  refine N_put (E := (uE E 17 (.inr (8, [.int 0, .int 0, .int 0, .ref (gR G 18), .ref (gR G 19), .ref (gR G 20), .null, .null, .null, .null, .null, .null, .null, .null])))) (ty := .array .int) (j := 6) (k := 17) C hG hP hS uX8 tyX8 tyX8_ok nmX8 rfl (by decide) wd95 rfl (Or.inr ⟨rfl, hin, rfl⟩) (by decide +kernel) rfl rfl (by decide) uE_at (Nat.le_of_ble_eq_true rfl) dX8_init_33 (fun H locs hP hS => ?_)
  rw [uE2] at hP
  replace hP : Yw G (uE E 17 (.inr (8, [.int 0, .int 0, .int 0, .ref (gR G 18), .ref (gR G 19), .ref (gR G 20), .ref (gR G 21), .null, .null, .null, .null, .null, .null, .null]))) 22 H := hP
  refine lv_aload_n hx hb dX8_init_36 rfl (lv_at hl 0 rfl) ?_
  refine lv_bipush (v := 64) hx hb dX8_init_37 rfl ?_
  refine N_newI (E := (uE E 17 (.inr (8, [.int 0, .int 0, .int 0, .ref (gR G 18), .ref (gR G 19), .ref (gR G 20), .ref (gR G 21), .null, .null, .null, .null, .null, .null, .null])))) C hG hP hS wd65 (((uE_ne (by decide)).trans (hE 22 (by decide) (by decide))).trans rfl) (by decide) rfl (Nat.le_of_ble_eq_true rfl) (Nat.le_of_ble_eq_true rfl) (Nat.le_of_ble_eq_true rfl) dX8_init_39 (fun H hP hS => ?_)
  refine N_put (E := (uE E 17 (.inr (8, [.int 0, .int 0, .int 0, .ref (gR G 18), .ref (gR G 19), .ref (gR G 20), .ref (gR G 21), .null, .null, .null, .null, .null, .null, .null])))) (ty := .array .int) (j := 7) (k := 17) C hG hP hS uX8 tyX8 tyX8_ok nmX8 rfl (by decide) wd99 rfl (Or.inr ⟨rfl, hin, rfl⟩) (by decide +kernel) rfl rfl (by decide) uE_at (Nat.le_of_ble_eq_true rfl) dX8_init_41 (fun H locs hP hS => ?_)
  rw [uE2] at hP
  replace hP : Yw G (uE E 17 (.inr (8, [.int 0, .int 0, .int 0, .ref (gR G 18), .ref (gR G 19), .ref (gR G 20), .ref (gR G 21), .ref (gR G 22), .null, .null, .null, .null, .null, .null]))) 23 H := hP
  refine lv_aload_n hx hb dX8_init_44 rfl (lv_at hl 0 rfl) ?_
  refine lv_bipush (v := 6) hx hb dX8_init_45 rfl ?_
  refine N_newI (E := (uE E 17 (.inr (8, [.int 0, .int 0, .int 0, .ref (gR G 18), .ref (gR G 19), .ref (gR G 20), .ref (gR G 21), .ref (gR G 22), .null, .null, .null, .null, .null, .null])))) C hG hP hS wd65 (((uE_ne (by decide)).trans (hE 23 (by decide) (by decide))).trans rfl) (by decide) rfl (Nat.le_of_ble_eq_true rfl) (Nat.le_of_ble_eq_true rfl) (Nat.le_of_ble_eq_true rfl) dX8_init_47 (fun H hP hS => ?_)
  refine N_put (E := (uE E 17 (.inr (8, [.int 0, .int 0, .int 0, .ref (gR G 18), .ref (gR G 19), .ref (gR G 20), .ref (gR G 21), .ref (gR G 22), .null, .null, .null, .null, .null, .null])))) (ty := .array .int) (j := 8) (k := 17) C hG hP hS uX8 tyX8 tyX8_ok nmX8 rfl (by decide) wd103 rfl (Or.inr ⟨rfl, hin, rfl⟩) (by decide +kernel) rfl rfl (by decide) uE_at (Nat.le_of_ble_eq_true rfl) dX8_init_49 (fun H locs hP hS => ?_)
  rw [uE2] at hP
  replace hP : Yw G (uE E 17 (.inr (8, [.int 0, .int 0, .int 0, .ref (gR G 18), .ref (gR G 19), .ref (gR G 20), .ref (gR G 21), .ref (gR G 22), .ref (gR G 23), .null, .null, .null, .null, .null]))) 24 H := hP
  refine lv_aload_n hx hb dX8_init_52 rfl (lv_at hl 0 rfl) ?_
  refine lv_bipush (v := 36) hx hb dX8_init_53 rfl ?_
  refine N_newI (E := (uE E 17 (.inr (8, [.int 0, .int 0, .int 0, .ref (gR G 18), .ref (gR G 19), .ref (gR G 20), .ref (gR G 21), .ref (gR G 22), .ref (gR G 23), .null, .null, .null, .null, .null])))) C hG hP hS wd65 (((uE_ne (by decide)).trans (hE 24 (by decide) (by decide))).trans rfl) (by decide) rfl (Nat.le_of_ble_eq_true rfl) (Nat.le_of_ble_eq_true rfl) (Nat.le_of_ble_eq_true rfl) dX8_init_55 (fun H hP hS => ?_)
  refine N_put (E := (uE E 17 (.inr (8, [.int 0, .int 0, .int 0, .ref (gR G 18), .ref (gR G 19), .ref (gR G 20), .ref (gR G 21), .ref (gR G 22), .ref (gR G 23), .null, .null, .null, .null, .null])))) (ty := .array .int) (j := 9) (k := 17) C hG hP hS uX8 tyX8 tyX8_ok nmX8 rfl (by decide) wd107 rfl (Or.inr ⟨rfl, hin, rfl⟩) (by decide +kernel) rfl rfl (by decide) uE_at (Nat.le_of_ble_eq_true rfl) dX8_init_57 (fun H locs hP hS => ?_)
  rw [uE2] at hP
  replace hP : Yw G (uE E 17 (.inr (8, [.int 0, .int 0, .int 0, .ref (gR G 18), .ref (gR G 19), .ref (gR G 20), .ref (gR G 21), .ref (gR G 22), .ref (gR G 23), .ref (gR G 24), .null, .null, .null, .null]))) 25 H := hP
  refine lv_aload_n hx hb dX8_init_60 rfl (lv_at hl 0 rfl) ?_
  refine lv_bipush (v := 6) hx hb dX8_init_61 rfl ?_
  refine N_newI (E := (uE E 17 (.inr (8, [.int 0, .int 0, .int 0, .ref (gR G 18), .ref (gR G 19), .ref (gR G 20), .ref (gR G 21), .ref (gR G 22), .ref (gR G 23), .ref (gR G 24), .null, .null, .null, .null])))) C hG hP hS wd65 (((uE_ne (by decide)).trans (hE 25 (by decide) (by decide))).trans rfl) (by decide) rfl (Nat.le_of_ble_eq_true rfl) (Nat.le_of_ble_eq_true rfl) (Nat.le_of_ble_eq_true rfl) dX8_init_63 (fun H hP hS => ?_)
  refine N_put (E := (uE E 17 (.inr (8, [.int 0, .int 0, .int 0, .ref (gR G 18), .ref (gR G 19), .ref (gR G 20), .ref (gR G 21), .ref (gR G 22), .ref (gR G 23), .ref (gR G 24), .null, .null, .null, .null])))) (ty := .array .int) (j := 10) (k := 17) C hG hP hS uX8 tyX8 tyX8_ok nmX8 rfl (by decide) wd110 rfl (Or.inr ⟨rfl, hin, rfl⟩) (by decide +kernel) rfl rfl (by decide) uE_at (Nat.le_of_ble_eq_true rfl) dX8_init_65 (fun H locs hP hS => ?_)
  rw [uE2] at hP
  replace hP : Yw G (uE E 17 (.inr (8, [.int 0, .int 0, .int 0, .ref (gR G 18), .ref (gR G 19), .ref (gR G 20), .ref (gR G 21), .ref (gR G 22), .ref (gR G 23), .ref (gR G 24), .ref (gR G 25), .null, .null, .null]))) 26 H := hP
  refine lv_aload_n hx hb dX8_init_68 rfl (lv_at hl 0 rfl) ?_
  refine lv_bipush (v := 8) hx hb dX8_init_69 rfl ?_
  refine N_newI (E := (uE E 17 (.inr (8, [.int 0, .int 0, .int 0, .ref (gR G 18), .ref (gR G 19), .ref (gR G 20), .ref (gR G 21), .ref (gR G 22), .ref (gR G 23), .ref (gR G 24), .ref (gR G 25), .null, .null, .null])))) C hG hP hS wd65 (((uE_ne (by decide)).trans (hE 26 (by decide) (by decide))).trans rfl) (by decide) rfl (Nat.le_of_ble_eq_true rfl) (Nat.le_of_ble_eq_true rfl) (Nat.le_of_ble_eq_true rfl) dX8_init_71 (fun H hP hS => ?_)
  refine N_put (E := (uE E 17 (.inr (8, [.int 0, .int 0, .int 0, .ref (gR G 18), .ref (gR G 19), .ref (gR G 20), .ref (gR G 21), .ref (gR G 22), .ref (gR G 23), .ref (gR G 24), .ref (gR G 25), .null, .null, .null])))) (ty := .array .int) (j := 11) (k := 17) C hG hP hS uX8 tyX8 tyX8_ok nmX8 rfl (by decide) wd113 rfl (Or.inr ⟨rfl, hin, rfl⟩) (by decide +kernel) rfl rfl (by decide) uE_at (Nat.le_of_ble_eq_true rfl) dX8_init_73 (fun H locs hP hS => ?_)
  rw [uE2] at hP
  replace hP : Yw G (uE E 17 (.inr (8, [.int 0, .int 0, .int 0, .ref (gR G 18), .ref (gR G 19), .ref (gR G 20), .ref (gR G 21), .ref (gR G 22), .ref (gR G 23), .ref (gR G 24), .ref (gR G 25), .ref (gR G 26), .null, .null]))) 27 H := hP
  refine lv_sipush (v := 701) hx hb dX8_init_76 rfl ?_
  refine N_newI (E := (uE E 17 (.inr (8, [.int 0, .int 0, .int 0, .ref (gR G 18), .ref (gR G 19), .ref (gR G 20), .ref (gR G 21), .ref (gR G 22), .ref (gR G 23), .ref (gR G 24), .ref (gR G 25), .ref (gR G 26), .null, .null])))) C hG hP hS wd65 (((uE_ne (by decide)).trans (hE 27 (by decide) (by decide))).trans rfl) (by decide) rfl (Nat.le_of_ble_eq_true rfl) (Nat.le_of_ble_eq_true rfl) (Nat.le_of_ble_eq_true rfl) dX8_init_79 (fun H hP hS => ?_)
  refine lv_astore_n hx hb dX8_init_81 rfl hl (by decide) rfl (fun ls hl => ?_)
  refine lv_aload_n hx hb dX8_init_82 rfl (lv_at hl 1 rfl) ?_
  refine N_new (E := (uE E 17 (.inr (8, [.int 0, .int 0, .int 0, .ref (gR G 18), .ref (gR G 19), .ref (gR G 20), .ref (gR G 21), .ref (gR G 22), .ref (gR G 23), .ref (gR G 24), .ref (gR G 25), .ref (gR G 26), .null, .null])))) (ci := 3) (fs := [.int 0, .null, .int 0, .int 0, .null]) C hG hP hS uX3 tyX3 tyX3_ok rfl wd39 wd40 wd3 (fun j hj => by match j, hj with | 0, _ => rfl | 1, _ => rfl | 2, _ => rfl | 3, _ => rfl | 4, _ => rfl | (z + 5), h => exact absurd h (by omega)) (Nat.le_of_ble_eq_true rfl) (Nat.le_of_ble_eq_true rfl) dX8_init_83 (fun H hP hS => ?_)
  refine lv_dup hx hb dX8_init_86 rfl ?_
  refine lv_aload_n hx hb dX8_init_87 rfl (lv_at hl 0 rfl) ?_
  refine N_ci (k := 28) (rest := [.ref (gR G 28), .ref (gR G 17)]) (As := [.ref (gR G 27)]) C hG hP hS (ciX3_28 l G (uE E 17 (.inr (8, [.int 0, .int 0, .int 0, .ref (gR G 18), .ref (gR G 19), .ref (gR G 20), .ref (gR G 21), .ref (gR G 22), .ref (gR G 23), .ref (gR G 24), .ref (gR G 25), .ref (gR G 26), .null, .null]))) (fun j h1 h2 => (uE_ne (by omega)).trans (hE j (by omega) (by omega)))) kIX8_41 hl.1 ⟨by decide, by decide⟩ rfl rfl (Nat.le_of_ble_eq_true rfl) dX8_init_88 ⟨(Nat.le_of_ble_eq_true rfl), (Nat.le_of_ble_eq_true rfl)⟩ (fun H locs hP hS => ?_)
  replace hP := hP.fold ((uE_ne (by decide)).trans (hE 28 (by decide) (by decide)))
  refine N_put (E := (uE E 17 (.inr (8, [.int 0, .int 0, .int 0, .ref (gR G 18), .ref (gR G 19), .ref (gR G 20), .ref (gR G 21), .ref (gR G 22), .ref (gR G 23), .ref (gR G 24), .ref (gR G 25), .ref (gR G 26), .null, .null])))) (ty := .object "SongFields$Rule") (j := 12) (k := 17) C hG hP hS uX8 tyX8 tyX8_ok nmX8 rfl (by decide) wd116 rfl (Or.inr ⟨rfl, hin, rfl⟩) (by decide +kernel) rfl rfl (by decide) uE_at (Nat.le_of_ble_eq_true rfl) dX8_init_91 (fun H locs hP hS => ?_)
  rw [uE2] at hP
  replace hP : Yw G (uE E 17 (.inr (8, [.int 0, .int 0, .int 0, .ref (gR G 18), .ref (gR G 19), .ref (gR G 20), .ref (gR G 21), .ref (gR G 22), .ref (gR G 23), .ref (gR G 24), .ref (gR G 25), .ref (gR G 26), .ref (gR G 28), .null]))) 30 H := hP
  refine lv_aload_n hx hb dX8_init_94 rfl (lv_at hl 1 rfl) ?_
  refine N_new (E := (uE E 17 (.inr (8, [.int 0, .int 0, .int 0, .ref (gR G 18), .ref (gR G 19), .ref (gR G 20), .ref (gR G 21), .ref (gR G 22), .ref (gR G 23), .ref (gR G 24), .ref (gR G 25), .ref (gR G 26), .ref (gR G 28), .null])))) (ci := 3) (fs := [.int 0, .null, .int 0, .int 0, .null]) C hG hP hS uX3 tyX3 tyX3_ok rfl wd39 wd40 wd3 (fun j hj => by match j, hj with | 0, _ => rfl | 1, _ => rfl | 2, _ => rfl | 3, _ => rfl | 4, _ => rfl | (z + 5), h => exact absurd h (by omega)) (Nat.le_of_ble_eq_true rfl) (Nat.le_of_ble_eq_true rfl) dX8_init_95 (fun H hP hS => ?_)
  refine lv_dup hx hb dX8_init_98 rfl ?_
  refine lv_aload_n hx hb dX8_init_99 rfl (lv_at hl 0 rfl) ?_
  refine N_ci (k := 30) (rest := [.ref (gR G 30), .ref (gR G 17)]) (As := [.ref (gR G 27)]) C hG hP hS (ciX3_30 l G (uE E 17 (.inr (8, [.int 0, .int 0, .int 0, .ref (gR G 18), .ref (gR G 19), .ref (gR G 20), .ref (gR G 21), .ref (gR G 22), .ref (gR G 23), .ref (gR G 24), .ref (gR G 25), .ref (gR G 26), .ref (gR G 28), .null]))) (fun j h1 h2 => (uE_ne (by omega)).trans (hE j (by omega) (by omega)))) kIX8_41 hl.1 ⟨by decide, by decide⟩ rfl rfl (Nat.le_of_ble_eq_true rfl) dX8_init_100 ⟨(Nat.le_of_ble_eq_true rfl), (Nat.le_of_ble_eq_true rfl)⟩ (fun H locs hP hS => ?_)
  replace hP := hP.fold ((uE_ne (by decide)).trans (hE 30 (by decide) (by decide)))
  refine N_put (E := (uE E 17 (.inr (8, [.int 0, .int 0, .int 0, .ref (gR G 18), .ref (gR G 19), .ref (gR G 20), .ref (gR G 21), .ref (gR G 22), .ref (gR G 23), .ref (gR G 24), .ref (gR G 25), .ref (gR G 26), .ref (gR G 28), .null])))) (ty := .object "SongFields$Rule") (j := 13) (k := 17) C hG hP hS uX8 tyX8 tyX8_ok nmX8 rfl (by decide) wd119 rfl (Or.inr ⟨rfl, hin, rfl⟩) (by decide +kernel) rfl rfl (by decide) uE_at (Nat.le_of_ble_eq_true rfl) dX8_init_103 (fun H locs hP hS => ?_)
  rw [uE2] at hP
  replace hP : Yw G (uE E 17 (.inr (8, [.int 0, .int 0, .int 0, .ref (gR G 18), .ref (gR G 19), .ref (gR G 20), .ref (gR G 21), .ref (gR G 22), .ref (gR G 23), .ref (gR G 24), .ref (gR G 25), .ref (gR G 26), .ref (gR G 28), .ref (gR G 30)]))) 32 H := hP
  exact N_ret C hr (show Yw G (uE E 17 (cE G 17 (S0 17))) 32 H from hP) hS dX8_init_106
set_option maxRecDepth 20000 in
theorem ciX8_17 (l : Launch) (G : Gt) (E : Nat → va_E) (hE : ∀ j, 17 < j → j < 32 → E j = cE G j (S0 j)) : Met l yX8_init (wm yX8_init cX8_init 2 none) (rmL 3 14 983) (PcI G (uE E 17 (.inr (8, [.int 0, .int 0, .int 0, .null, .null, .null, .null, .null, .null, .null, .null, .null, .null, .null]))) 18 [.ref (gR G 17)]) (QN G (uE E 17 (cE G 17 (S0 17))) 32) 14 983 (Ab G) := by
  refine Met.ofW (cc := cX8_init) (maxL := 2) (ret := none) (by decide) rfl ?_
  intro p e s m args below meth c s₁ B hml hv
  obtain ⟨rfl, hK, hG, hP⟩ := hv
  have hin : meth.name = "<init>" := (name_of_methodNamed B.named B.method).1
  have C : Cx p s m _ meth c cX8_init 2 RX8 G := ⟨⟨B.exec, B.bytes, hml, findClass_of_methodNamed B.named, fun w hw => atoms_spec (ws := wm yX8_init cX8_init 2 none) B.pre w (List.mem_cons_of_mem _ hw)⟩, B.notSynchronized, hK⟩
  have hl := lv_entry ([.ref (gR G 17)]) (n := 2) (Nat.le_of_ble_eq_true rfl)
  rw [lg_entry_eq]
  generalize (lg_sl ([.ref (gR G 17)]) ++ List.replicate (2 - (lg_sl ([.ref (gR G 17)])).length) Slot.unset).toArray = ls at hl ⊢
  exact sciX8_17 C hG B.returns hin hE hP va_S.rf hl
set_option maxHeartbeats 4000000 in
set_option maxRecDepth 20000 in
theorem sciX7_33 (C : Cx p s m args meth c cX7_init 2 RX7 G) (hG : Kc G s) (hr : meth.sig.returnType = none) (hin : meth.name = "<init>") {E : Nat → va_E} (hE : ∀ j, 33 < j → j < 34 → E j = cE G j (S0 j)) {H : Heap} {locs : List Loc} {ls : Array Slot} (hP : Yw G (uE E 33 (.inr (7, [.null, .int 0, .int 0, .int 0, .int 0, .int 0]))) 34 H) (hS : va_S (Ab G) s.heap H locs) (hl : lv_has ls 2 [(0, .ref (gR G 33)), (1, .ref (gR G 1))]) : W p l e (rmL 2 0 0) s m args below meth c H locs 0 0 (MQ below (QN G (uE E 33 (cE G 33 (S0 33))) 34) args s 0 0 (Ab G)) (F0 m 0 ls []) := by
  have hx := C.1.1
  have hb := C.1.2.1
  refine lv_aload_n hx hb dX7_init_0 rfl (lv_at hl 0 rfl) ?_
  refine N_obj C hl.1 wd162 wd31 wd32 (Nat.le_of_ble_eq_true rfl) (Nat.le_of_ble_eq_true rfl) dX7_init_1 ?_
  refine lv_aload_n hx hb dX7_init_4 rfl (lv_at hl 0 rfl) ?_
  refine lv_aload_n hx hb dX7_init_5 rfl (lv_at hl 1 rfl) ?_
  refine N_put (E := (uE E 33 (.inr (7, [.null, .int 0, .int 0, .int 0, .int 0, .int 0])))) (ty := .array .byte) (j := 0) (k := 33) C hG hP hS uX7 tyX7 tyX7_ok nmX7 rfl (by decide) wd163 rfl (Or.inr ⟨rfl, hin, rfl⟩) (by decide +kernel) rfl rfl (by decide) uE_at (Nat.le_of_ble_eq_true rfl) dX7_init_6 (fun H locs hP hS => ?_)
  rw [uE2] at hP
  replace hP : Yw G (uE E 33 (.inr (7, [.ref (gR G 1), .int 0, .int 0, .int 0, .int 0, .int 0]))) 34 H := hP
  exact N_ret C hr (show Yw G (uE E 33 (cE G 33 (S0 33))) 34 H from hP) hS dX7_init_9
set_option maxRecDepth 20000 in
theorem ciX7_33 (l : Launch) (G : Gt) (E : Nat → va_E) (hE : ∀ j, 33 < j → j < 34 → E j = cE G j (S0 j)) : Met l yX7_init (wm yX7_init cX7_init 2 none) (rmL 2 0 0) (PcI G (uE E 33 (.inr (7, [.null, .int 0, .int 0, .int 0, .int 0, .int 0]))) 34 [.ref (gR G 33), .ref (gR G 1)]) (QN G (uE E 33 (cE G 33 (S0 33))) 34) 0 0 (Ab G) := by
  refine Met.ofW (cc := cX7_init) (maxL := 2) (ret := none) (by decide) rfl ?_
  intro p e s m args below meth c s₁ B hml hv
  obtain ⟨rfl, hK, hG, hP⟩ := hv
  have hin : meth.name = "<init>" := (name_of_methodNamed B.named B.method).1
  have C : Cx p s m _ meth c cX7_init 2 RX7 G := ⟨⟨B.exec, B.bytes, hml, findClass_of_methodNamed B.named, fun w hw => atoms_spec (ws := wm yX7_init cX7_init 2 none) B.pre w (List.mem_cons_of_mem _ hw)⟩, B.notSynchronized, hK⟩
  have hl := lv_entry ([.ref (gR G 33), .ref (gR G 1)]) (n := 2) (Nat.le_of_ble_eq_true rfl)
  rw [lg_entry_eq]
  generalize (lg_sl ([.ref (gR G 33), .ref (gR G 1)]) ++ List.replicate (2 - (lg_sl ([.ref (gR G 33), .ref (gR G 1)])).length) Slot.unset).toArray = ls at hl ⊢
  exact sciX7_33 C hG B.returns hin hE hP va_S.rf hl
set_option maxHeartbeats 4000000 in
set_option maxRecDepth 20000 in
theorem sciX5_140 (C : Cx p s m args meth c cX5_init 1 RX5 G) (hG : Kc G s) (hr : meth.sig.returnType = none) (hin : meth.name = "<init>") {E : Nat → va_E} (hE : ∀ j, 140 < j → j < 142 → E j = cE G j (S0 j)) {H : Heap} {locs : List Loc} {ls : Array Slot} (hP : Yw G (uE E 140 (.inr (5, [.null]))) 141 H) (hS : va_S (Ab G) s.heap H locs) (hl : lv_has ls 1 [(0, .ref (gR G 140))]) : W p l e (rmL 2 1 2048) s m args below meth c H locs 0 0 (MQ below (QN G (uE E 140 (cE G 140 (S0 140))) 142) args s 1 2048 (Ab G)) (F0 m 0 ls []) := by
  have hx := C.1.1
  have hb := C.1.2.1
  refine lv_aload_n hx hb dX5_init_0 rfl (lv_at hl 0 rfl) ?_
  refine N_obj C hl.1 wd342 wd31 wd32 (Nat.le_of_ble_eq_true rfl) (Nat.le_of_ble_eq_true rfl) dX5_init_1 ?_
  refine lv_aload_n hx hb dX5_init_4 rfl (lv_at hl 0 rfl) ?_
  refine lv_sipush (v := 2048) hx hb dX5_init_5 rfl ?_
  refine N_newI (E := (uE E 140 (.inr (5, [.null])))) C hG hP hS wd65 (((uE_ne (by decide)).trans (hE 141 (by decide) (by decide))).trans rfl) (by decide) rfl (Nat.le_of_ble_eq_true rfl) (Nat.le_of_ble_eq_true rfl) (Nat.le_of_ble_eq_true rfl) dX5_init_8 (fun H hP hS => ?_)
  refine N_put (E := (uE E 140 (.inr (5, [.null])))) (ty := .array .int) (j := 0) (k := 140) C hG hP hS uX5 tyX5 tyX5_ok nmX5 rfl (by decide) wd343 rfl (Or.inr ⟨rfl, hin, rfl⟩) (by decide +kernel) rfl rfl (by decide) uE_at (Nat.le_of_ble_eq_true rfl) dX5_init_10 (fun H locs hP hS => ?_)
  rw [uE2] at hP
  replace hP : Yw G (uE E 140 (.inr (5, [.ref (gR G 141)]))) 142 H := hP
  exact N_ret C hr (show Yw G (uE E 140 (cE G 140 (S0 140))) 142 H from hP) hS dX5_init_13
set_option maxRecDepth 20000 in
theorem ciX5_140 (l : Launch) (G : Gt) (E : Nat → va_E) (hE : ∀ j, 140 < j → j < 142 → E j = cE G j (S0 j)) : Met l yX5_init (wm yX5_init cX5_init 1 none) (rmL 2 1 2048) (PcI G (uE E 140 (.inr (5, [.null]))) 141 [.ref (gR G 140)]) (QN G (uE E 140 (cE G 140 (S0 140))) 142) 1 2048 (Ab G) := by
  refine Met.ofW (cc := cX5_init) (maxL := 1) (ret := none) (by decide) rfl ?_
  intro p e s m args below meth c s₁ B hml hv
  obtain ⟨rfl, hK, hG, hP⟩ := hv
  have hin : meth.name = "<init>" := (name_of_methodNamed B.named B.method).1
  have C : Cx p s m _ meth c cX5_init 1 RX5 G := ⟨⟨B.exec, B.bytes, hml, findClass_of_methodNamed B.named, fun w hw => atoms_spec (ws := wm yX5_init cX5_init 1 none) B.pre w (List.mem_cons_of_mem _ hw)⟩, B.notSynchronized, hK⟩
  have hl := lv_entry ([.ref (gR G 140)]) (n := 1) (Nat.le_of_ble_eq_true rfl)
  rw [lg_entry_eq]
  generalize (lg_sl ([.ref (gR G 140)]) ++ List.replicate (1 - (lg_sl ([.ref (gR G 140)])).length) Slot.unset).toArray = ls at hl ⊢
  exact sciX5_140 C hG B.returns hin hE hP va_S.rf hl
set_option maxHeartbeats 4000000 in
set_option maxRecDepth 20000 in
theorem sciX2_34 (C : Cx p s m args meth c cX2_init 2 RX2 G) (hG : Kc G s) (hr : meth.sig.returnType = none) (hin : meth.name = "<init>") {E : Nat → va_E} (hE : ∀ j, 34 < j → j < 36 → E j = cE G j (S0 j)) {H : Heap} {locs : List Loc} {ls : Array Slot} (hP : Yw G (uE E 34 (.inr (2, [.null, .null, .int 0, .int 0, .int 0, .int 0, .int 0]))) 35 H) (hS : va_S (Ab G) s.heap H locs) (hl : lv_has ls 2 [(0, .ref (gR G 34)), (1, .ref (gR G 33))]) : W p l e (rmL 2 1 96) s m args below meth c H locs 0 0 (MQ below (QN G (uE E 34 (cE G 34 (S0 34))) 36) args s 1 96 (Ab G)) (F0 m 0 ls []) := by
  have hx := C.1.1
  have hb := C.1.2.1
  refine lv_aload_n hx hb dX2_init_0 rfl (lv_at hl 0 rfl) ?_
  refine N_obj C hl.1 wd192 wd31 wd32 (Nat.le_of_ble_eq_true rfl) (Nat.le_of_ble_eq_true rfl) dX2_init_1 ?_
  refine lv_aload_n hx hb dX2_init_4 rfl (lv_at hl 0 rfl) ?_
  refine lv_bipush (v := 96) hx hb dX2_init_5 rfl ?_
  refine N_newI (E := (uE E 34 (.inr (2, [.null, .null, .int 0, .int 0, .int 0, .int 0, .int 0])))) C hG hP hS wd65 (((uE_ne (by decide)).trans (hE 35 (by decide) (by decide))).trans rfl) (by decide) rfl (Nat.le_of_ble_eq_true rfl) (Nat.le_of_ble_eq_true rfl) (Nat.le_of_ble_eq_true rfl) dX2_init_7 (fun H hP hS => ?_)
  refine N_put (E := (uE E 34 (.inr (2, [.null, .null, .int 0, .int 0, .int 0, .int 0, .int 0])))) (ty := .array .int) (j := 1) (k := 34) C hG hP hS uX2 tyX2 tyX2_ok nmX2 rfl (by decide) wd194 rfl (Or.inr ⟨rfl, hin, rfl⟩) (by decide +kernel) rfl rfl (by decide) uE_at (Nat.le_of_ble_eq_true rfl) dX2_init_9 (fun H locs hP hS => ?_)
  rw [uE2] at hP
  replace hP : Yw G (uE E 34 (.inr (2, [.null, .ref (gR G 35), .int 0, .int 0, .int 0, .int 0, .int 0]))) 36 H := hP
  refine lv_aload_n hx hb dX2_init_12 rfl (lv_at hl 0 rfl) ?_
  refine lv_aload_n hx hb dX2_init_13 rfl (lv_at hl 1 rfl) ?_
  refine N_put (E := (uE E 34 (.inr (2, [.null, .ref (gR G 35), .int 0, .int 0, .int 0, .int 0, .int 0])))) (ty := .object "SongFields$Tokens") (j := 0) (k := 34) C hG hP hS uX2 tyX2 tyX2_ok nmX2 rfl (by decide) wd193 rfl (Or.inr ⟨rfl, hin, rfl⟩) (by decide +kernel) rfl rfl (by decide) uE_at (Nat.le_of_ble_eq_true rfl) dX2_init_14 (fun H locs hP hS => ?_)
  rw [uE2] at hP
  replace hP : Yw G (uE E 34 (.inr (2, [.ref (gR G 33), .ref (gR G 35), .int 0, .int 0, .int 0, .int 0, .int 0]))) 36 H := hP
  exact N_ret C hr (show Yw G (uE E 34 (cE G 34 (S0 34))) 36 H from hP) hS dX2_init_17
set_option maxRecDepth 20000 in
theorem ciX2_34 (l : Launch) (G : Gt) (E : Nat → va_E) (hE : ∀ j, 34 < j → j < 36 → E j = cE G j (S0 j)) : Met l yX2_init (wm yX2_init cX2_init 2 none) (rmL 2 1 96) (PcI G (uE E 34 (.inr (2, [.null, .null, .int 0, .int 0, .int 0, .int 0, .int 0]))) 35 [.ref (gR G 34), .ref (gR G 33)]) (QN G (uE E 34 (cE G 34 (S0 34))) 36) 1 96 (Ab G) := by
  refine Met.ofW (cc := cX2_init) (maxL := 2) (ret := none) (by decide) rfl ?_
  intro p e s m args below meth c s₁ B hml hv
  obtain ⟨rfl, hK, hG, hP⟩ := hv
  have hin : meth.name = "<init>" := (name_of_methodNamed B.named B.method).1
  have C : Cx p s m _ meth c cX2_init 2 RX2 G := ⟨⟨B.exec, B.bytes, hml, findClass_of_methodNamed B.named, fun w hw => atoms_spec (ws := wm yX2_init cX2_init 2 none) B.pre w (List.mem_cons_of_mem _ hw)⟩, B.notSynchronized, hK⟩
  have hl := lv_entry ([.ref (gR G 34), .ref (gR G 33)]) (n := 2) (Nat.le_of_ble_eq_true rfl)
  rw [lg_entry_eq]
  generalize (lg_sl ([.ref (gR G 34), .ref (gR G 33)]) ++ List.replicate (2 - (lg_sl ([.ref (gR G 34), .ref (gR G 33)])).length) Slot.unset).toArray = ls at hl ⊢
  exact sciX2_34 C hG B.returns hin hE hP va_S.rf hl
set_option maxHeartbeats 4000000 in
set_option maxRecDepth 20000 in
theorem sciX0_130 (C : Cx p s m args meth c cX0_init 2 RX0 G) (hG : Kc G s) (hr : meth.sig.returnType = none) (hin : meth.name = "<init>") {E : Nat → va_E} (hE : ∀ j, 130 < j → j < 137 → E j = cE G j (S0 j)) {H : Heap} {locs : List Loc} {ls : Array Slot} (hP : Yw G (uE E 130 (.inr (0, [.null, .null, .null, .null, .null, .null, .null]))) 131 H) (hS : va_S (Ab G) s.heap H locs) (hl : lv_has ls 2 [(0, .ref (gR G 130)), (1, .ref (gR G 2))]) : W p l e (rmL 2 6 137) s m args below meth c H locs 0 0 (MQ below (QN G (uE E 130 (cE G 130 (S0 130))) 137) args s 6 137 (Ab G)) (F0 m 0 ls []) := by
  have hx := C.1.1
  have hb := C.1.2.1
  refine lv_aload_n hx hb dX0_init_0 rfl (lv_at hl 0 rfl) ?_
  refine N_obj C hl.1 wd282 wd31 wd32 (Nat.le_of_ble_eq_true rfl) (Nat.le_of_ble_eq_true rfl) dX0_init_1 ?_
  refine lv_aload_n hx hb dX0_init_4 rfl (lv_at hl 0 rfl) ?_
  refine lv_bipush (v := 106) hx hb dX0_init_5 rfl ?_
  refine N_newI (E := (uE E 130 (.inr (0, [.null, .null, .null, .null, .null, .null, .null])))) C hG hP hS wd65 (((uE_ne (by decide)).trans (hE 131 (by decide) (by decide))).trans rfl) (by decide) rfl (Nat.le_of_ble_eq_true rfl) (Nat.le_of_ble_eq_true rfl) (Nat.le_of_ble_eq_true rfl) dX0_init_7 (fun H hP hS => ?_)
  refine N_put (E := (uE E 130 (.inr (0, [.null, .null, .null, .null, .null, .null, .null])))) (ty := .array .int) (j := 1) (k := 130) C hG hP hS uX0 tyX0 tyX0_ok nmX0 rfl (by decide) wd284 rfl (Or.inr ⟨rfl, hin, rfl⟩) (by decide +kernel) rfl rfl (by decide) uE_at (Nat.le_of_ble_eq_true rfl) dX0_init_9 (fun H locs hP hS => ?_)
  rw [uE2] at hP
  replace hP : Yw G (uE E 130 (.inr (0, [.null, .ref (gR G 131), .null, .null, .null, .null, .null]))) 132 H := hP
  refine lv_aload_n hx hb dX0_init_12 rfl (lv_at hl 0 rfl) ?_
  refine lv_bipush (v := 6) hx hb dX0_init_13 rfl ?_
  refine N_newI (E := (uE E 130 (.inr (0, [.null, .ref (gR G 131), .null, .null, .null, .null, .null])))) C hG hP hS wd65 (((uE_ne (by decide)).trans (hE 132 (by decide) (by decide))).trans rfl) (by decide) rfl (Nat.le_of_ble_eq_true rfl) (Nat.le_of_ble_eq_true rfl) (Nat.le_of_ble_eq_true rfl) dX0_init_15 (fun H hP hS => ?_)
  refine N_put (E := (uE E 130 (.inr (0, [.null, .ref (gR G 131), .null, .null, .null, .null, .null])))) (ty := .array .int) (j := 2) (k := 130) C hG hP hS uX0 tyX0 tyX0_ok nmX0 rfl (by decide) wd287 rfl (Or.inr ⟨rfl, hin, rfl⟩) (by decide +kernel) rfl rfl (by decide) uE_at (Nat.le_of_ble_eq_true rfl) dX0_init_17 (fun H locs hP hS => ?_)
  rw [uE2] at hP
  replace hP : Yw G (uE E 130 (.inr (0, [.null, .ref (gR G 131), .ref (gR G 132), .null, .null, .null, .null]))) 133 H := hP
  refine lv_aload_n hx hb dX0_init_20 rfl (lv_at hl 0 rfl) ?_
  refine lv_bipush (v := 6) hx hb dX0_init_21 rfl ?_
  refine N_newI (E := (uE E 130 (.inr (0, [.null, .ref (gR G 131), .ref (gR G 132), .null, .null, .null, .null])))) C hG hP hS wd65 (((uE_ne (by decide)).trans (hE 133 (by decide) (by decide))).trans rfl) (by decide) rfl (Nat.le_of_ble_eq_true rfl) (Nat.le_of_ble_eq_true rfl) (Nat.le_of_ble_eq_true rfl) dX0_init_23 (fun H hP hS => ?_)
  refine N_put (E := (uE E 130 (.inr (0, [.null, .ref (gR G 131), .ref (gR G 132), .null, .null, .null, .null])))) (ty := .array .int) (j := 3) (k := 130) C hG hP hS uX0 tyX0 tyX0_ok nmX0 rfl (by decide) wd288 rfl (Or.inr ⟨rfl, hin, rfl⟩) (by decide +kernel) rfl rfl (by decide) uE_at (Nat.le_of_ble_eq_true rfl) dX0_init_25 (fun H locs hP hS => ?_)
  rw [uE2] at hP
  replace hP : Yw G (uE E 130 (.inr (0, [.null, .ref (gR G 131), .ref (gR G 132), .ref (gR G 133), .null, .null, .null]))) 134 H := hP
  refine lv_aload_n hx hb dX0_init_28 rfl (lv_at hl 0 rfl) ?_
  refine lv_bipush (v := 6) hx hb dX0_init_29 rfl ?_
  refine N_newI (E := (uE E 130 (.inr (0, [.null, .ref (gR G 131), .ref (gR G 132), .ref (gR G 133), .null, .null, .null])))) C hG hP hS wd65 (((uE_ne (by decide)).trans (hE 134 (by decide) (by decide))).trans rfl) (by decide) rfl (Nat.le_of_ble_eq_true rfl) (Nat.le_of_ble_eq_true rfl) (Nat.le_of_ble_eq_true rfl) dX0_init_31 (fun H hP hS => ?_)
  refine N_put (E := (uE E 130 (.inr (0, [.null, .ref (gR G 131), .ref (gR G 132), .ref (gR G 133), .null, .null, .null])))) (ty := .array .int) (j := 4) (k := 130) C hG hP hS uX0 tyX0 tyX0_ok nmX0 rfl (by decide) wd290 rfl (Or.inr ⟨rfl, hin, rfl⟩) (by decide +kernel) rfl rfl (by decide) uE_at (Nat.le_of_ble_eq_true rfl) dX0_init_33 (fun H locs hP hS => ?_)
  rw [uE2] at hP
  replace hP : Yw G (uE E 130 (.inr (0, [.null, .ref (gR G 131), .ref (gR G 132), .ref (gR G 133), .ref (gR G 134), .null, .null]))) 135 H := hP
  refine lv_aload_n hx hb dX0_init_36 rfl (lv_at hl 0 rfl) ?_
  refine lv_bipush (v := 8) hx hb dX0_init_37 rfl ?_
  refine N_newI (E := (uE E 130 (.inr (0, [.null, .ref (gR G 131), .ref (gR G 132), .ref (gR G 133), .ref (gR G 134), .null, .null])))) C hG hP hS wd65 (((uE_ne (by decide)).trans (hE 135 (by decide) (by decide))).trans rfl) (by decide) rfl (Nat.le_of_ble_eq_true rfl) (Nat.le_of_ble_eq_true rfl) (Nat.le_of_ble_eq_true rfl) dX0_init_39 (fun H hP hS => ?_)
  refine N_put (E := (uE E 130 (.inr (0, [.null, .ref (gR G 131), .ref (gR G 132), .ref (gR G 133), .ref (gR G 134), .null, .null])))) (ty := .array .int) (j := 5) (k := 130) C hG hP hS uX0 tyX0 tyX0_ok nmX0 rfl (by decide) wd292 rfl (Or.inr ⟨rfl, hin, rfl⟩) (by decide +kernel) rfl rfl (by decide) uE_at (Nat.le_of_ble_eq_true rfl) dX0_init_41 (fun H locs hP hS => ?_)
  rw [uE2] at hP
  replace hP : Yw G (uE E 130 (.inr (0, [.null, .ref (gR G 131), .ref (gR G 132), .ref (gR G 133), .ref (gR G 134), .ref (gR G 135), .null]))) 136 H := hP
  refine lv_aload_n hx hb dX0_init_44 rfl (lv_at hl 0 rfl) ?_
  refine lv_iconst (v := 5) hx hb dX0_init_45 rfl ?_
  refine N_newI (E := (uE E 130 (.inr (0, [.null, .ref (gR G 131), .ref (gR G 132), .ref (gR G 133), .ref (gR G 134), .ref (gR G 135), .null])))) C hG hP hS wd65 (((uE_ne (by decide)).trans (hE 136 (by decide) (by decide))).trans rfl) (by decide) rfl (Nat.le_of_ble_eq_true rfl) (Nat.le_of_ble_eq_true rfl) (Nat.le_of_ble_eq_true rfl) dX0_init_46 (fun H hP hS => ?_)
  refine N_put (E := (uE E 130 (.inr (0, [.null, .ref (gR G 131), .ref (gR G 132), .ref (gR G 133), .ref (gR G 134), .ref (gR G 135), .null])))) (ty := .array .int) (j := 6) (k := 130) C hG hP hS uX0 tyX0 tyX0_ok nmX0 rfl (by decide) wd293 rfl (Or.inr ⟨rfl, hin, rfl⟩) (by decide +kernel) rfl rfl (by decide) uE_at (Nat.le_of_ble_eq_true rfl) dX0_init_48 (fun H locs hP hS => ?_)
  rw [uE2] at hP
  replace hP : Yw G (uE E 130 (.inr (0, [.null, .ref (gR G 131), .ref (gR G 132), .ref (gR G 133), .ref (gR G 134), .ref (gR G 135), .ref (gR G 136)]))) 137 H := hP
  refine lv_aload_n hx hb dX0_init_51 rfl (lv_at hl 0 rfl) ?_
  refine lv_aload_n hx hb dX0_init_52 rfl (lv_at hl 1 rfl) ?_
  refine N_put (E := (uE E 130 (.inr (0, [.null, .ref (gR G 131), .ref (gR G 132), .ref (gR G 133), .ref (gR G 134), .ref (gR G 135), .ref (gR G 136)])))) (ty := .object "SongFields$Valley") (j := 0) (k := 130) C hG hP hS uX0 tyX0 tyX0_ok nmX0 rfl (by decide) wd283 rfl (Or.inl rfl) (by decide +kernel) rfl rfl (by decide) uE_at (Nat.le_of_ble_eq_true rfl) dX0_init_53 (fun H locs hP hS => ?_)
  rw [uE2] at hP
  replace hP : Yw G (uE E 130 (.inr (0, [.ref (gR G 2), .ref (gR G 131), .ref (gR G 132), .ref (gR G 133), .ref (gR G 134), .ref (gR G 135), .ref (gR G 136)]))) 137 H := hP
  exact N_ret C hr (show Yw G (uE E 130 (cE G 130 (S0 130))) 137 H from hP) hS dX0_init_56
set_option maxRecDepth 20000 in
theorem ciX0_130 (l : Launch) (G : Gt) (E : Nat → va_E) (hE : ∀ j, 130 < j → j < 137 → E j = cE G j (S0 j)) : Met l yX0_init (wm yX0_init cX0_init 2 none) (rmL 2 6 137) (PcI G (uE E 130 (.inr (0, [.null, .null, .null, .null, .null, .null, .null]))) 131 [.ref (gR G 130), .ref (gR G 2)]) (QN G (uE E 130 (cE G 130 (S0 130))) 137) 6 137 (Ab G) := by
  refine Met.ofW (cc := cX0_init) (maxL := 2) (ret := none) (by decide) rfl ?_
  intro p e s m args below meth c s₁ B hml hv
  obtain ⟨rfl, hK, hG, hP⟩ := hv
  have hin : meth.name = "<init>" := (name_of_methodNamed B.named B.method).1
  have C : Cx p s m _ meth c cX0_init 2 RX0 G := ⟨⟨B.exec, B.bytes, hml, findClass_of_methodNamed B.named, fun w hw => atoms_spec (ws := wm yX0_init cX0_init 2 none) B.pre w (List.mem_cons_of_mem _ hw)⟩, B.notSynchronized, hK⟩
  have hl := lv_entry ([.ref (gR G 130), .ref (gR G 2)]) (n := 2) (Nat.le_of_ble_eq_true rfl)
  rw [lg_entry_eq]
  generalize (lg_sl ([.ref (gR G 130), .ref (gR G 2)]) ++ List.replicate (2 - (lg_sl ([.ref (gR G 130), .ref (gR G 2)])).length) Slot.unset).toArray = ls at hl ⊢
  exact sciX0_130 C hG B.returns hin hE hP va_S.rf hl
set_option maxHeartbeats 4000000 in
set_option maxRecDepth 20000 in
theorem sciX1_137 (C : Cx p s m args meth c cX1_init 2 RX1 G) (hG : Kc G s) (hr : meth.sig.returnType = none) (hin : meth.name = "<init>") {E : Nat → va_E} (hE : ∀ j, 137 < j → j < 140 → E j = cE G j (S0 j)) {H : Heap} {locs : List Loc} {ls : Array Slot} (hP : Yw G (uE E 137 (.inr (1, [.null, .int 0, .int 0, .null, .null, .int 0]))) 138 H) (hS : va_S (Ab G) s.heap H locs) (hl : lv_has ls 2 [(0, .ref (gR G 137)), (1, .ref (gR G 130))]) : W p l e (rmL 2 2 16) s m args below meth c H locs 0 0 (MQ below (QN G (uE E 137 (cE G 137 (S0 137))) 140) args s 2 16 (Ab G)) (F0 m 0 ls []) := by
  have hx := C.1.1
  have hb := C.1.2.1
  refine lv_aload_n hx hb dX1_init_0 rfl (lv_at hl 0 rfl) ?_
  refine N_obj C hl.1 wd314 wd31 wd32 (Nat.le_of_ble_eq_true rfl) (Nat.le_of_ble_eq_true rfl) dX1_init_1 ?_
  refine lv_aload_n hx hb dX1_init_4 rfl (lv_at hl 0 rfl) ?_
  refine lv_bipush (v := 8) hx hb dX1_init_5 rfl ?_
  refine N_newI (E := (uE E 137 (.inr (1, [.null, .int 0, .int 0, .null, .null, .int 0])))) C hG hP hS wd65 (((uE_ne (by decide)).trans (hE 138 (by decide) (by decide))).trans rfl) (by decide) rfl (Nat.le_of_ble_eq_true rfl) (Nat.le_of_ble_eq_true rfl) (Nat.le_of_ble_eq_true rfl) dX1_init_7 (fun H hP hS => ?_)
  refine N_put (E := (uE E 137 (.inr (1, [.null, .int 0, .int 0, .null, .null, .int 0])))) (ty := .array .int) (j := 3) (k := 137) C hG hP hS uX1 tyX1 tyX1_ok nmX1 rfl (by decide) wd320 rfl (Or.inr ⟨rfl, hin, rfl⟩) (by decide +kernel) rfl rfl (by decide) uE_at (Nat.le_of_ble_eq_true rfl) dX1_init_9 (fun H locs hP hS => ?_)
  rw [uE2] at hP
  replace hP : Yw G (uE E 137 (.inr (1, [.null, .int 0, .int 0, .ref (gR G 138), .null, .int 0]))) 139 H := hP
  refine lv_aload_n hx hb dX1_init_12 rfl (lv_at hl 0 rfl) ?_
  refine lv_bipush (v := 8) hx hb dX1_init_13 rfl ?_
  refine N_newI (E := (uE E 137 (.inr (1, [.null, .int 0, .int 0, .ref (gR G 138), .null, .int 0])))) C hG hP hS wd65 (((uE_ne (by decide)).trans (hE 139 (by decide) (by decide))).trans rfl) (by decide) rfl (Nat.le_of_ble_eq_true rfl) (Nat.le_of_ble_eq_true rfl) (Nat.le_of_ble_eq_true rfl) dX1_init_15 (fun H hP hS => ?_)
  refine N_put (E := (uE E 137 (.inr (1, [.null, .int 0, .int 0, .ref (gR G 138), .null, .int 0])))) (ty := .array .int) (j := 4) (k := 137) C hG hP hS uX1 tyX1 tyX1_ok nmX1 rfl (by decide) wd322 rfl (Or.inr ⟨rfl, hin, rfl⟩) (by decide +kernel) rfl rfl (by decide) uE_at (Nat.le_of_ble_eq_true rfl) dX1_init_17 (fun H locs hP hS => ?_)
  rw [uE2] at hP
  replace hP : Yw G (uE E 137 (.inr (1, [.null, .int 0, .int 0, .ref (gR G 138), .ref (gR G 139), .int 0]))) 140 H := hP
  refine lv_aload_n hx hb dX1_init_20 rfl (lv_at hl 0 rfl) ?_
  refine lv_aload_n hx hb dX1_init_21 rfl (lv_at hl 1 rfl) ?_
  refine N_put (E := (uE E 137 (.inr (1, [.null, .int 0, .int 0, .ref (gR G 138), .ref (gR G 139), .int 0])))) (ty := .object "SongFields$Course") (j := 0) (k := 137) C hG hP hS uX1 tyX1 tyX1_ok nmX1 rfl (by decide) wd315 rfl (Or.inr ⟨rfl, hin, rfl⟩) (by decide +kernel) rfl rfl (by decide) uE_at (Nat.le_of_ble_eq_true rfl) dX1_init_22 (fun H locs hP hS => ?_)
  rw [uE2] at hP
  replace hP : Yw G (uE E 137 (.inr (1, [.ref (gR G 130), .int 0, .int 0, .ref (gR G 138), .ref (gR G 139), .int 0]))) 140 H := hP
  exact N_ret C hr (show Yw G (uE E 137 (cE G 137 (S0 137))) 140 H from hP) hS dX1_init_25
set_option maxRecDepth 20000 in
theorem ciX1_137 (l : Launch) (G : Gt) (E : Nat → va_E) (hE : ∀ j, 137 < j → j < 140 → E j = cE G j (S0 j)) : Met l yX1_init (wm yX1_init cX1_init 2 none) (rmL 2 2 16) (PcI G (uE E 137 (.inr (1, [.null, .int 0, .int 0, .null, .null, .int 0]))) 138 [.ref (gR G 137), .ref (gR G 130)]) (QN G (uE E 137 (cE G 137 (S0 137))) 140) 2 16 (Ab G) := by
  refine Met.ofW (cc := cX1_init) (maxL := 2) (ret := none) (by decide) rfl ?_
  intro p e s m args below meth c s₁ B hml hv
  obtain ⟨rfl, hK, hG, hP⟩ := hv
  have hin : meth.name = "<init>" := (name_of_methodNamed B.named B.method).1
  have C : Cx p s m _ meth c cX1_init 2 RX1 G := ⟨⟨B.exec, B.bytes, hml, findClass_of_methodNamed B.named, fun w hw => atoms_spec (ws := wm yX1_init cX1_init 2 none) B.pre w (List.mem_cons_of_mem _ hw)⟩, B.notSynchronized, hK⟩
  have hl := lv_entry ([.ref (gR G 137), .ref (gR G 130)]) (n := 2) (Nat.le_of_ble_eq_true rfl)
  rw [lg_entry_eq]
  generalize (lg_sl ([.ref (gR G 137), .ref (gR G 130)]) ++ List.replicate (2 - (lg_sl ([.ref (gR G 137), .ref (gR G 130)])).length) Slot.unset).toArray = ls at hl ⊢
  exact sciX1_137 C hG B.returns hin hE hP va_S.rf hl
theorem kIX6_11 : CIw RX6 11 yX7_init cX7_init 2 1 := ⟨wd159, wd160, wd5, wd161, rfl, by decide +kernel⟩
theorem kIX6_22 : CIw RX6 22 yX2_init cX2_init 2 1 := ⟨wd189, wd190, wd6, wd191, rfl, by decide +kernel⟩
set_option maxHeartbeats 4000000 in
set_option maxRecDepth 20000 in
theorem sciX6_32 (C : Cx p s m args meth c cX6_init 3 RX6 G) (hG : Kc G s) (hr : meth.sig.returnType = none) (hin : meth.name = "<init>") {E : Nat → va_E} (hE : ∀ j, 32 < j → j < 36 → E j = cE G j (S0 j)) {H : Heap} {locs : List Loc} {ls : Array Slot} (hP : Yw G (uE E 32 (.inr (6, [.null, .null, .null, .int 0, .int 0]))) 33 H) (hS : va_S (Ab G) s.heap H locs) (hl : lv_has ls 3 [(0, .ref (gR G 32)), (1, .ref (gR G 1)), (2, .ref (gR G 17))]) : W p l e (rmL 3 3 109) s m args below meth c H locs 0 0 (MQ below (QN G (uE E 32 (cE G 32 (S0 32))) 36) args s 3 109 (Ab G)) (F0 m 0 ls []) := by
  have hx := C.1.1
  have hb := C.1.2.1
  refine lv_aload_n hx hb dX6_init_0 rfl (lv_at hl 0 rfl) ?_
  refine N_obj C hl.1 wd156 wd31 wd32 (Nat.le_of_ble_eq_true rfl) (Nat.le_of_ble_eq_true rfl) dX6_init_1 ?_
  refine lv_aload_n hx hb dX6_init_4 rfl (lv_at hl 0 rfl) ?_
  refine N_new (E := (uE E 32 (.inr (6, [.null, .null, .null, .int 0, .int 0])))) (ci := 7) (fs := [.null, .int 0, .int 0, .int 0, .int 0, .int 0]) C hG hP hS uX7 tyX7 tyX7_ok rfl wd157 wd158 wd5 (fun j hj => by match j, hj with | 0, _ => rfl | 1, _ => rfl | 2, _ => rfl | 3, _ => rfl | 4, _ => rfl | 5, _ => rfl | (z + 6), h => exact absurd h (by omega)) (Nat.le_of_ble_eq_true rfl) (Nat.le_of_ble_eq_true rfl) dX6_init_5 (fun H hP hS => ?_)
  refine lv_dup hx hb dX6_init_8 rfl ?_
  refine lv_aload_n hx hb dX6_init_9 rfl (lv_at hl 1 rfl) ?_
  refine N_ci (k := 33) (rest := [.ref (gR G 33), .ref (gR G 32)]) (As := [.ref (gR G 1)]) C hG hP hS (ciX7_33 l G (uE E 32 (.inr (6, [.null, .null, .null, .int 0, .int 0]))) (fun j h1 h2 => (uE_ne (by omega)).trans (hE j (by omega) (by omega)))) kIX6_11 hl.1 ⟨by decide, by decide⟩ rfl rfl (Nat.le_of_ble_eq_true rfl) dX6_init_10 ⟨(Nat.le_of_ble_eq_true rfl), (Nat.le_of_ble_eq_true rfl)⟩ (fun H locs hP hS => ?_)
  replace hP := hP.fold ((uE_ne (by decide)).trans (hE 33 (by decide) (by decide)))
  refine N_put (E := (uE E 32 (.inr (6, [.null, .null, .null, .int 0, .int 0])))) (ty := .object "SongFields$Tokens") (j := 0) (k := 32) C hG hP hS uX6 tyX6 tyX6_ok nmX6 rfl (by decide) wd215 rfl (Or.inr ⟨rfl, hin, rfl⟩) (by decide +kernel) rfl rfl (by decide) uE_at (Nat.le_of_ble_eq_true rfl) dX6_init_13 (fun H locs hP hS => ?_)
  rw [uE2] at hP
  replace hP : Yw G (uE E 32 (.inr (6, [.ref (gR G 33), .null, .null, .int 0, .int 0]))) 34 H := hP
  refine lv_aload_n hx hb dX6_init_16 rfl (lv_at hl 0 rfl) ?_
  refine N_new (E := (uE E 32 (.inr (6, [.ref (gR G 33), .null, .null, .int 0, .int 0])))) (ci := 2) (fs := [.null, .null, .int 0, .int 0, .int 0, .int 0, .int 0]) C hG hP hS uX2 tyX2 tyX2_ok rfl wd187 wd188 wd6 (fun j hj => by match j, hj with | 0, _ => rfl | 1, _ => rfl | 2, _ => rfl | 3, _ => rfl | 4, _ => rfl | 5, _ => rfl | 6, _ => rfl | (z + 7), h => exact absurd h (by omega)) (Nat.le_of_ble_eq_true rfl) (Nat.le_of_ble_eq_true rfl) dX6_init_17 (fun H hP hS => ?_)
  refine lv_dup hx hb dX6_init_20 rfl ?_
  refine lv_aload_n hx hb dX6_init_21 rfl (lv_at hl 0 rfl) ?_
  refine N_get (j := 0) (k := 32) C hP uX6 rfl (by decide) wd215 rfl (by decide) ((uE_ne (by decide)).trans uE_at) rfl dX6_init_22 ?_
  refine N_ci (k := 34) (rest := [.ref (gR G 34), .ref (gR G 32)]) (As := [.ref (gR G 33)]) C hG hP hS (ciX2_34 l G (uE E 32 (.inr (6, [.ref (gR G 33), .null, .null, .int 0, .int 0]))) (fun j h1 h2 => (uE_ne (by omega)).trans (hE j (by omega) (by omega)))) kIX6_22 hl.1 ⟨by decide, by decide⟩ rfl rfl (Nat.le_of_ble_eq_true rfl) dX6_init_25 ⟨(Nat.le_of_ble_eq_true rfl), (Nat.le_of_ble_eq_true rfl)⟩ (fun H locs hP hS => ?_)
  replace hP := hP.fold ((uE_ne (by decide)).trans (hE 34 (by decide) (by decide)))
  refine N_put (E := (uE E 32 (.inr (6, [.ref (gR G 33), .null, .null, .int 0, .int 0])))) (ty := .object "SongFields$Phrase") (j := 1) (k := 32) C hG hP hS uX6 tyX6 tyX6_ok nmX6 rfl (by decide) wd216 rfl (Or.inr ⟨rfl, hin, rfl⟩) (by decide +kernel) rfl rfl (by decide) uE_at (Nat.le_of_ble_eq_true rfl) dX6_init_28 (fun H locs hP hS => ?_)
  rw [uE2] at hP
  replace hP : Yw G (uE E 32 (.inr (6, [.ref (gR G 33), .ref (gR G 34), .null, .int 0, .int 0]))) 36 H := hP
  refine lv_aload_n hx hb dX6_init_31 rfl (lv_at hl 0 rfl) ?_
  refine lv_aload_n hx hb dX6_init_32 rfl (lv_at hl 2 rfl) ?_
  refine N_put (E := (uE E 32 (.inr (6, [.ref (gR G 33), .ref (gR G 34), .null, .int 0, .int 0])))) (ty := .object "SongFields$Valley") (j := 2) (k := 32) C hG hP hS uX6 tyX6 tyX6_ok nmX6 rfl (by decide) wd217 rfl (Or.inl rfl) (by decide +kernel) rfl rfl (by decide) uE_at (Nat.le_of_ble_eq_true rfl) dX6_init_33 (fun H locs hP hS => ?_)
  rw [uE2] at hP
  replace hP : Yw G (uE E 32 (.inr (6, [.ref (gR G 33), .ref (gR G 34), .ref (gR G 17), .int 0, .int 0]))) 36 H := hP
  exact N_ret C hr (show Yw G (uE E 32 (cE G 32 (S0 32))) 36 H from hP) hS dX6_init_36
set_option maxRecDepth 20000 in
theorem ciX6_32 (l : Launch) (G : Gt) (E : Nat → va_E) (hE : ∀ j, 32 < j → j < 36 → E j = cE G j (S0 j)) : Met l yX6_init (wm yX6_init cX6_init 3 none) (rmL 3 3 109) (PcI G (uE E 32 (.inr (6, [.null, .null, .null, .int 0, .int 0]))) 33 [.ref (gR G 32), .ref (gR G 1), .ref (gR G 17)]) (QN G (uE E 32 (cE G 32 (S0 32))) 36) 3 109 (Ab G) := by
  refine Met.ofW (cc := cX6_init) (maxL := 3) (ret := none) (by decide) rfl ?_
  intro p e s m args below meth c s₁ B hml hv
  obtain ⟨rfl, hK, hG, hP⟩ := hv
  have hin : meth.name = "<init>" := (name_of_methodNamed B.named B.method).1
  have C : Cx p s m _ meth c cX6_init 3 RX6 G := ⟨⟨B.exec, B.bytes, hml, findClass_of_methodNamed B.named, fun w hw => atoms_spec (ws := wm yX6_init cX6_init 3 none) B.pre w (List.mem_cons_of_mem _ hw)⟩, B.notSynchronized, hK⟩
  have hl := lv_entry ([.ref (gR G 32), .ref (gR G 1), .ref (gR G 17)]) (n := 3) (Nat.le_of_ble_eq_true rfl)
  rw [lg_entry_eq]
  generalize (lg_sl ([.ref (gR G 32), .ref (gR G 1), .ref (gR G 17)]) ++ List.replicate (3 - (lg_sl ([.ref (gR G 32), .ref (gR G 1), .ref (gR G 17)])).length) Slot.unset).toArray = ls at hl ⊢
  exact sciX6_32 C hG B.returns hin hE hP va_S.rf hl
end IN
