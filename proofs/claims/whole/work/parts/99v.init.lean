theorem uE2 {E : Nat → va_E} {k : Nat} {a b : va_E} : uE (uE E k a) k b = uE E k b := by
  funext j
  by_cases c : j = k
  · subst c; rw [uE_at, uE_at]
  · rw [uE_ne c, uE_ne c, uE_ne c]
theorem Yw.fold {G : Gt} {E : Nat → va_E} {q n : Nat} {e : va_E} {H : Heap} (h : Yw G (uE E q e) n H) (he : E q = e) : Yw G E n H := h.ext (fun j _ => by
  by_cases c : j = q
  · subst c; rw [uE_at, he]
  · exact uE_ne c)
section IN
variable {p : Program} {l : Launch} {e : Env} {s : State} {m : MethodId} {args : Array Value} {below : List Frame} {meth : Method} {c : Code} {G : Gt}
set_option maxHeartbeats 4000000 in
set_option maxRecDepth 20000 in
theorem sciX5_140 (C : Cx p s m args meth c cX5_init 1 RX5 G) (hG : Kc G s) (hr : meth.sig.returnType = none) (hin : meth.name = "<init>") {E : Nat → va_E} (hE : ∀ j, 140 < j → j < 142 → E j = cE G j (S0 j)) {H : Heap} {locs : List Loc} {ls : Array Slot} (hP : Yw G (uE E 140 (.inr (5, [.null]))) 141 H) (hS : va_S (Ab G) s.heap H locs) (hl : lv_has ls 1 [(0, .ref (gR G 140))]) : W p l e (rmL 2 1 2048) s m args below meth c H locs 0 0 (MQ below (QN G (uE E 140 (cE G 140 (S0 140))) 142) args s 1 2048 (Ab G)) (F0 m 0 ls []) := by
  have hx := C.1.1
  have hb := C.1.2.1
  refine lv_aload_n hx hb dX5_init_0 rfl (lv_at hl 0 rfl) ?_
  refine N_obj C hl.1 wd342 wd31 wd32 (Nat.le_of_ble_eq_true rfl) (Nat.le_of_ble_eq_true rfl) dX5_init_1 ?_
  refine lv_aload_n hx hb dX5_init_4 rfl (lv_at hl 0 rfl) ?_
  refine lv_sipush (v := 2048) hx hb dX5_init_5 rfl ?_
  refine N_newI (E := (uE E 140 (.inr (5, [.null])))) C hG hP hS wd65 (((uE_ne (by decide)).trans (hE 141 (by decide) (by decide))).trans rfl) (by decide) rfl (Nat.le_of_ble_eq_true rfl) (Nat.le_of_ble_eq_true rfl) (Nat.le_of_ble_eq_true rfl) dX5_init_8 (fun H hP hS => ?_)
  refine N_put (E := (uE E 140 (.inr (5, [.null])))) (ty := .array .int) (j := 0) (k := 140) C hG hP hS uX5 tyX5 tyX5_ok nmX5 rfl (by decide) wd343 rfl (Or.inr ⟨rfl, hin, rfl⟩) (by decide +kernel) rfl rfl (by decide) uE_at (by decide) dX5_init_10 (fun H locs hP hS => ?_)
  rw [uE2] at hP
  replace hP : Yw G (uE E 140 (.inr (5, [.ref (gR G 141)]))) 142 H := hP
  exact N_ret C hr (show Yw G (uE E 140 (cE G 140 (S0 140))) 142 H from hP) hS dX5_init_13
set_option maxRecDepth 20000 in
theorem ciX5_140 (l : Launch) (G : Gt) (E : Nat → va_E) (hE : ∀ j, 140 < j → j < 142 → E j = cE G j (S0 j)) : Met l yX5_init (wm yX5_init cX5_init 1 none) (rmL 2 1 2048) (PcI G (uE E 140 (.inr (5, [.null]))) 141 [.ref (gR G 140)]) (QN G (uE E 140 (cE G 140 (S0 140))) 142) 1 2048 (Ab G) := by
  refine Met.ofW (cc := cX5_init) (maxL := 1) (ret := none) (by decide) rfl ?_
  intro p e s m args below meth c s₁ B hml hv
  obtain ⟨rfl, hK, hG, hP⟩ := hv
  have hin : meth.name = "<init>" := (name_of_methodNamed B.named B.method).1
  have C : Cx p s m _ meth c cX5_init 1 RX5 G := ⟨⟨B.exec, B.bytes, hml, findClass_of_methodNamed B.named, fun w hw => atoms_spec (ws := wm yX5_init cX5_init 1 none) B.pre w (List.mem_cons_of_mem _ hw)⟩, B.notSynchronized, hK⟩
  have hl := lv_entry ([.ref (gR G 140)]) (n := 1) (Nat.le_of_ble_eq_true rfl)
  rw [lg_entry_eq]
  generalize (lg_sl ([.ref (gR G 140)]) ++ List.replicate (1 - (lg_sl ([.ref (gR G 140)])).length) Slot.unset).toArray = ls at hl ⊢
  exact sciX5_140 C hG B.returns hin hE hP va_S.rf hl
end IN
