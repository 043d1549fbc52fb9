section T20
variable {p : Program} {l : Launch} {e : Env} {s : State} {m : MethodId} {args : Array Value} {below : List Frame} {meth : Method} {c : Code} {G : Gt}
def fX8_placeOf (a0 : Nat) (a1 : Nat) (a2 : Int32) (S : St) : Option (Int32 × St) :=
  rd S (sr a0 8) a2 fun x2 => (if 1 ≤ x2 then rd S a1 0 fun x4 => rm' x4 x2 fun x5 => rd S a1 ((62 + (a2 * 6)) + x5) fun x6 => ri x6 S else ri 0 S)
set_option maxHeartbeats 4000000 in
set_option maxRecDepth 20000 in
theorem sfX8_placeOf (C : Cx p s m args meth c cX8_placeOf 4 RX8 G) (hr : meth.sig.returnType = some .int) {a0 : Nat} {a1 : Nat} {a2 : Int32} {S : St} {res : (Int32 × St)} {H : Heap} {locs : List Loc} {ls : Array Slot} (k0 : kd a0 = 8) (k1 : kd a1 = 20) (hd : Dy G S s H locs) (hl : lv_has ls 4 [(0, .ref (gR G a0)), (1, .ref (gR G a1)), (2, .int a2)]) (h : fX8_placeOf a0 a1 a2 S = some res) : W p l e (rmL 2 0 0) s m args below meth c H locs 0 0 (MQ below (QI G res.1 res.2) args s 0 0 (Ab G)) (F0 m 0 ls []) := by
  unfold fX8_placeOf at h
  have hx := C.1.1
  have hb := C.1.2.1
  refine lv_aload_n hx hb dX8_placeOf_0 rfl (lv_at hl 0 rfl) ?_
  refine gX8_27 C hd k0 (q := sr a0 8) rfl dX8_placeOf_1 (fun y1 => ?_)
  refine lv_iload_n hx hb dX8_placeOf_4 rfl (lv_at hl 2 rfl) ?_
  refine R_iald C hd y1 h dX8_placeOf_5 (fun x2 h => ?_)
  refine lv_istore_n (lv' := [(3, .int x2), (0, .ref (gR G a0)), (1, .ref (gR G a1)), (2, .int a2)]) hx hb dX8_placeOf_6 rfl hl (by decide) rfl (fun ls hl => ?_)
  refine lv_iload_n hx hb dX8_placeOf_7 rfl (lv_at hl 0 rfl) ?_
  refine lv_iconst (v := 1) hx hb dX8_placeOf_8 (by decide) ?_
  refine lv_icmp_ge (tgt := 16) hx hb dX8_placeOf_9 (by decide) (fun c3 => ?_) (fun c3 => ?_)
  · rw [if_pos c3] at h
    refine lv_aload_n hx hb dX8_placeOf_16 rfl (lv_at hl 2 rfl) ?_
    refine lv_bipush (v := 62) hx hb dX8_placeOf_17 (by decide) ?_
    refine lv_iload_n hx hb dX8_placeOf_19 rfl (lv_at hl 3 rfl) ?_
    refine lv_bipush (v := 6) hx hb dX8_placeOf_20 (by decide) ?_
    refine lv_imul hx hb dX8_placeOf_22 ?_
    refine lv_iadd hx hb dX8_placeOf_23 ?_
    refine lv_aload_n hx hb dX8_placeOf_24 rfl (lv_at hl 2 rfl) ?_
    refine lv_iconst (v := 0) hx hb dX8_placeOf_25 (by decide) ?_
    refine R_iald C hd k1 h dX8_placeOf_26 (fun x4 h => ?_)
    refine lv_iload_n hx hb dX8_placeOf_27 rfl (lv_at hl 0 rfl) ?_
    refine R_rem C h dX8_placeOf_28 (fun x5 h => ?_)
    refine lv_iadd hx hb dX8_placeOf_29 ?_
    refine R_iald C hd k1 h dX8_placeOf_30 (fun x6 h => ?_)
    exact R_iret C hr hd h dX8_placeOf_31
  · rw [if_neg c3] at h
    refine lv_iconst (v := 0) hx hb dX8_placeOf_12 (by decide) ?_
    refine lv_goto (tgt := 31) hx hb dX8_placeOf_13 (by decide) ?_
    exact R_iret C hr hd h dX8_placeOf_31
set_option maxRecDepth 20000 in
theorem ccX8_placeOf (l : Launch) (G : Gt) {a0 : Nat} {a1 : Nat} {a2 : Int32} {S : St} {res : (Int32 × St)} (k0 : kd a0 = 8) (k1 : kd a1 = 20) (h : fX8_placeOf a0 a1 a2 S = some res) : Met l yX8_placeOf (wm yX8_placeOf cX8_placeOf 4 (some .int)) (rmL 2 0 0) (PcW G S [.ref (gR G a0), .ref (gR G a1), .int a2]) (QI G res.1 res.2) 0 0 (Ab G) := by
  refine Met.ofW (cc := cX8_placeOf) (maxL := 4) (ret := (some .int)) (by decide) rfl ?_
  intro p e s m args below meth c s₁ B hml hv
  obtain ⟨rfl, hK, hP⟩ := hv
  have C : Cx p s m _ meth c cX8_placeOf 4 RX8 G := ⟨⟨B.exec, B.bytes, hml, findClass_of_methodNamed B.named, fun w hw => atoms_spec (ws := wm yX8_placeOf cX8_placeOf 4 (some .int)) B.pre w (List.mem_cons_of_mem _ hw)⟩, B.notSynchronized, hK⟩
  have hl := lv_entry ([.ref (gR G a0), .ref (gR G a1), .int a2]) (n := 4) (Nat.le_of_ble_eq_true rfl)
  rw [lg_entry_eq]
  generalize (lg_sl ([.ref (gR G a0), .ref (gR G a1), .int a2]) ++ List.replicate (4 - (lg_sl ([.ref (gR G a0), .ref (gR G a1), .int a2])).length) Slot.unset).toArray = ls at hl ⊢
  exact sfX8_placeOf C B.returns k0 k1 ⟨hP, va_S.rf⟩ hl h
def fX10_isOf (a0 : Int32) (a1 : Int32) (S : St) : Option (Int32 × St) :=
  (if ((a0 >>> (a1 &&& 31)) &&& 1) = 1 then rz 1 S else rz 0 S)
set_option maxHeartbeats 4000000 in
set_option maxRecDepth 20000 in
theorem sfX10_isOf (C : Cx p s m args meth c cX10_isOf 2 RX10 G) (hr : meth.sig.returnType = some .boolean) {a0 : Int32} {a1 : Int32} {S : St} {res : (Int32 × St)} {H : Heap} {locs : List Loc} {ls : Array Slot}  (hd : Dy G S s H locs) (hl : lv_has ls 2 [(0, .int a0), (1, .int a1)]) (h : fX10_isOf a0 a1 S = some res) : W p l e (rmL 2 0 0) s m args below meth c H locs 0 0 (MQ below (QI G res.1 res.2) args s 0 0 (Ab G)) (F0 m 0 ls []) := by
  unfold fX10_isOf at h
  have hx := C.1.1
  have hb := C.1.2.1
  refine lv_iload_n hx hb dX10_isOf_0 rfl (lv_at hl 0 rfl) ?_
  refine lv_iload_n hx hb dX10_isOf_1 rfl (lv_at hl 1 rfl) ?_
  refine lv_ishr hx hb dX10_isOf_2 ?_
  refine lv_iconst (v := 1) hx hb dX10_isOf_3 (by decide) ?_
  refine lv_iand hx hb dX10_isOf_4 ?_
  refine lv_iconst (v := 1) hx hb dX10_isOf_5 (by decide) ?_
  refine lv_icmp_ne (tgt := 13) hx hb dX10_isOf_6 (by decide) (fun c1 => ?_) (fun c1 => ?_)
  · rw [if_neg c1] at h
    refine lv_iconst (v := 0) hx hb dX10_isOf_13 (by decide) ?_
    exact R_zret C hr hd h dX10_isOf_14
  · rw [if_pos c1] at h
    refine lv_iconst (v := 1) hx hb dX10_isOf_9 (by decide) ?_
    refine lv_goto (tgt := 14) hx hb dX10_isOf_10 (by decide) ?_
    exact R_zret C hr hd h dX10_isOf_14
set_option maxRecDepth 20000 in
theorem ccX10_isOf (l : Launch) (G : Gt) {a0 : Int32} {a1 : Int32} {S : St} {res : (Int32 × St)}  (h : fX10_isOf a0 a1 S = some res) : Met l yX10_isOf (wm yX10_isOf cX10_isOf 2 (some .boolean)) (rmL 2 0 0) (PcW G S [.int a0, .int a1]) (QI G res.1 res.2) 0 0 (Ab G) := by
  refine Met.ofW (cc := cX10_isOf) (maxL := 2) (ret := (some .boolean)) (by decide) rfl ?_
  intro p e s m args below meth c s₁ B hml hv
  obtain ⟨rfl, hK, hP⟩ := hv
  have C : Cx p s m _ meth c cX10_isOf 2 RX10 G := ⟨⟨B.exec, B.bytes, hml, findClass_of_methodNamed B.named, fun w hw => atoms_spec (ws := wm yX10_isOf cX10_isOf 2 (some .boolean)) B.pre w (List.mem_cons_of_mem _ hw)⟩, B.notSynchronized, hK⟩
  have hl := lv_entry ([.int a0, .int a1]) (n := 2) (Nat.le_of_ble_eq_true rfl)
  rw [lg_entry_eq]
  generalize (lg_sl ([.int a0, .int a1]) ++ List.replicate (2 - (lg_sl ([.int a0, .int a1])).length) Slot.unset).toArray = ls at hl ⊢
  exact sfX10_isOf C B.returns  ⟨hP, va_S.rf⟩ hl h
def KJ7_fill_53178_5 (r5 : Nat → Int32 → Int32 → Int32 → St → Option St) (l0 : Nat) (l1 : Int32) (l2 : Int32) (l3 : Int32) (S : St) : Option St :=
  (if l3 ≤ l2 then some S else wr S l0 l2 l1 fun S => vl (l2 + 1) fun x2 => (r5 l0 l1 x2 l3 S))
set_option maxHeartbeats 4000000 in
set_option maxRecDepth 20000 in
theorem sKJ7_fill_53178_5 (C : Cx p s m args meth c cJ7_fill_53178 4 RJ7 G) (hr : meth.sig.returnType = none) {r5 : Nat → Int32 → Int32 → Int32 → St → Option St} (hr5 : ∀ (l0 : Nat) (l1 : Int32) (l2 : Int32) (l3 : Int32) (S : St) (res : St) (H : Heap) (locs : List Loc) (ls : Array Slot), kd l0 = 20 → Dy G S s H locs → lv_has ls 4 [(0, .ref (gR G l0)), (1, .int l1), (2, .int l2), (3, .int l3)] → r5 l0 l1 l2 l3 S = some res → W p l e (rmL 2 0 0) s m args below meth c H locs 0 0 (MQ below (QV G res) args s 0 0 (Ab G)) (F0 m 5 ls [])) {l0 : Nat} {l1 : Int32} {l2 : Int32} {l3 : Int32} {S : St} {res : St} {H : Heap} {locs : List Loc} {ls : Array Slot} (kl0 : kd l0 = 20) (hd : Dy G S s H locs) (hl : lv_has ls 4 [(0, .ref (gR G l0)), (1, .int l1), (2, .int l2), (3, .int l3)]) (h : KJ7_fill_53178_5 r5 l0 l1 l2 l3 S = some res) : W p l e (rmL 2 0 0) s m args below meth c H locs 0 0 (MQ below (QV G res) args s 0 0 (Ab G)) (F0 m 5 ls []) := by
  unfold KJ7_fill_53178_5 at h
  have hx := C.1.1
  have hb := C.1.2.1
  refine lv_iload_n hx hb dJ7_fill_53178_5 rfl (lv_at hl 2 rfl) ?_
  refine lv_iload_n hx hb dJ7_fill_53178_6 rfl (lv_at hl 3 rfl) ?_
  refine lv_icmp_ge (tgt := 20) hx hb dJ7_fill_53178_7 (by decide) (fun c1 => ?_) (fun c1 => ?_)
  · rw [if_pos c1] at h
    exact R_vret C hr hd h dJ7_fill_53178_20
  · rw [if_neg c1] at h
    refine lv_aload_n hx hb dJ7_fill_53178_10 rfl (lv_at hl 0 rfl) ?_
    refine lv_iload_n hx hb dJ7_fill_53178_11 rfl (lv_at hl 2 rfl) ?_
    refine lv_iload_n hx hb dJ7_fill_53178_12 rfl (lv_at hl 1 rfl) ?_
    refine R_iast C hd kl0 h dJ7_fill_53178_13 (fun S H locs hd h => ?_)
    refine R_vi h (fun x2 ex2 h => ?_)
    refine lv_iinc (v := x2) (lv' := [(2, .int x2), (0, .ref (gR G l0)), (1, .int l1), (3, .int l3)]) hx hb dJ7_fill_53178_14 hl (k := 2) rfl (by rw [ex2]; rfl) (by decide) rfl (fun ls hl => ?_)
    refine lv_goto (tgt := 5) hx hb dJ7_fill_53178_17 (by decide) ?_
    exact hr5 l0 l1 x2 l3 _ _ _ _ _ kl0 hd (lv_sub hl [1, 2, 0, 3] rfl) h
def LJ7_fill_53178_5 : Nat → Nat → Int32 → Int32 → Int32 → St → Option St
  | 0 => fun _ _ _ _ _ => none
  | n + 1 => fun l0 l1 l2 l3 S => KJ7_fill_53178_5 (LJ7_fill_53178_5 n) l0 l1 l2 l3 S
theorem sLJ7_fill_53178_5 (C : Cx p s m args meth c cJ7_fill_53178 4 RJ7 G) (hr : meth.sig.returnType = none) : ∀ (n : Nat) (l0 : Nat) (l1 : Int32) (l2 : Int32) (l3 : Int32) (S : St) (res : St) (H : Heap) (locs : List Loc) (ls : Array Slot), kd l0 = 20 → Dy G S s H locs → lv_has ls 4 [(0, .ref (gR G l0)), (1, .int l1), (2, .int l2), (3, .int l3)] → LJ7_fill_53178_5 n l0 l1 l2 l3 S = some res → W p l e (rmL 2 0 0) s m args below meth c H locs 0 0 (MQ below (QV G res) args s 0 0 (Ab G)) (F0 m 5 ls []) := by
  intro n
  induction n with
  | zero => intro l0 l1 l2 l3 S res H locs ls kl0 hd hl h; cases h
  | succ n ih =>
    intro l0 l1 l2 l3 S res H locs ls kl0 hd hl h
    exact sKJ7_fill_53178_5 C hr ih kl0 hd hl h
def fJ7_fill_53178 (a0 : Nat) (a1 : Int32) (S : St) : Option St :=
  vl (nI (ln a0)) fun x1 => (LJ7_fill_53178_5 FU a0 a1 0 x1 S)
set_option maxHeartbeats 4000000 in
set_option maxRecDepth 20000 in
theorem sfJ7_fill_53178 (C : Cx p s m args meth c cJ7_fill_53178 4 RJ7 G) (hr : meth.sig.returnType = none) {a0 : Nat} {a1 : Int32} {S : St} {res : St} {H : Heap} {locs : List Loc} {ls : Array Slot} (k0 : kd a0 = 20) (hd : Dy G S s H locs) (hl : lv_has ls 4 [(0, .ref (gR G a0)), (1, .int a1)]) (h : fJ7_fill_53178 a0 a1 S = some res) : W p l e (rmL 2 0 0) s m args below meth c H locs 0 0 (MQ below (QV G res) args s 0 0 (Ab G)) (F0 m 0 ls []) := by
  unfold fJ7_fill_53178 at h
  have hx := C.1.1
  have hb := C.1.2.1
  refine lv_iconst (v := 0) hx hb dJ7_fill_53178_0 (by decide) ?_
  refine lv_istore_n (lv' := [(2, .int 0), (0, .ref (gR G a0)), (1, .int a1)]) hx hb dJ7_fill_53178_1 rfl hl (by decide) rfl (fun ls hl => ?_)
  refine lv_aload_n hx hb dJ7_fill_53178_2 rfl (lv_at hl 1 rfl) ?_
  refine R_alen C hd k0 (v := nI (ln a0)) rfl dJ7_fill_53178_3 ?_
  refine R_vl h (fun x1 h => ?_)
  refine lv_istore_n (lv' := [(3, .int x1), (2, .int 0), (0, .ref (gR G a0)), (1, .int a1)]) hx hb dJ7_fill_53178_4 rfl hl (by decide) rfl (fun ls hl => ?_)
  exact sLJ7_fill_53178_5 C hr _ a0 a1 0 x1 _ _ _ _ _ k0 hd (lv_sub hl [2, 3, 1, 0] rfl) h
set_option maxRecDepth 20000 in
theorem ccJ7_fill_53178 (l : Launch) (G : Gt) {a0 : Nat} {a1 : Int32} {S : St} {res : St} (k0 : kd a0 = 20) (h : fJ7_fill_53178 a0 a1 S = some res) : Met l yJ7_fill_53178 (wm yJ7_fill_53178 cJ7_fill_53178 4 (none)) (rmL 2 0 0) (PcW G S [.ref (gR G a0), .int a1]) (QV G res) 0 0 (Ab G) := by
  refine Met.ofW (cc := cJ7_fill_53178) (maxL := 4) (ret := none) (by decide) rfl ?_
  intro p e s m args below meth c s₁ B hml hv
  obtain ⟨rfl, hK, hP⟩ := hv
  have C : Cx p s m _ meth c cJ7_fill_53178 4 RJ7 G := ⟨⟨B.exec, B.bytes, hml, findClass_of_methodNamed B.named, fun w hw => atoms_spec (ws := wm yJ7_fill_53178 cJ7_fill_53178 4 (none)) B.pre w (List.mem_cons_of_mem _ hw)⟩, B.notSynchronized, hK⟩
  have hl := lv_entry ([.ref (gR G a0), .int a1]) (n := 4) (Nat.le_of_ble_eq_true rfl)
  rw [lg_entry_eq]
  generalize (lg_sl ([.ref (gR G a0), .int a1]) ++ List.replicate (4 - (lg_sl ([.ref (gR G a0), .int a1])).length) Slot.unset).toArray = ls at hl ⊢
  exact sfJ7_fill_53178 C B.returns k0 ⟨hP, va_S.rf⟩ hl h
def KX0_findPlaces_2 (r2 : Int32 → St → Option St) (l1 : Int32) (S : St) : Option St :=
  gm S 130 0 8 fun q1 => (if (S q1 2) ≤ l1 then some S else gm S 130 0 8 fun q4 => bd (fX8_placeOf q4 131 l1 S) fun x6 S => wr S 132 l1 x6 fun S => vl (l1 + 1) fun x7 => (r2 x7 S))
set_option maxHeartbeats 4000000 in
set_option maxRecDepth 20000 in
theorem sKX0_findPlaces_2 (C : Cx p s m args meth c cX0_findPlaces 2 RX0 G) (hr : meth.sig.returnType = none) {r2 : Int32 → St → Option St} (hr2 : ∀ (l1 : Int32) (S : St) (res : St) (H : Heap) (locs : List Loc) (ls : Array Slot), Dy G S s H locs → lv_has ls 2 [(0, .ref (gR G 130)), (1, .int l1)] → r2 l1 S = some res → W p l e (rmL 3 0 0) s m args below meth c H locs 0 0 (MQ below (QV G res) args s 0 0 (Ab G)) (F0 m 2 ls [])) {l1 : Int32} {S : St} {res : St} {H : Heap} {locs : List Loc} {ls : Array Slot}  (hd : Dy G S s H locs) (hl : lv_has ls 2 [(0, .ref (gR G 130)), (1, .int l1)]) (h : KX0_findPlaces_2 r2 l1 S = some res) : W p l e (rmL 3 0 0) s m args below meth c H locs 0 0 (MQ below (QV G res) args s 0 0 (Ab G)) (F0 m 2 ls []) := by
  unfold KX0_findPlaces_2 at h
  have hx := C.1.1
  have hb := C.1.2.1
  refine lv_iload_n hx hb dX0_findPlaces_2 rfl (lv_at hl 1 rfl) ?_
  refine lv_aload_n hx hb dX0_findPlaces_3 rfl (lv_at hl 0 rfl) ?_
  refine gX0_30 C hd (rfl : kd 130 = 0) h dX0_findPlaces_4 (fun q1 kq1 h => ?_)
  refine gX0_49 C hd kq1 dX0_findPlaces_7 ?_
  refine lv_icmp_ge (tgt := 37) hx hb dX0_findPlaces_10 (by decide) (fun c2 => ?_) (fun c2 => ?_)
  · rw [if_pos c2] at h
    exact R_vret C hr hd h dX0_findPlaces_37
  · rw [if_neg c2] at h
    refine lv_aload_n hx hb dX0_findPlaces_13 rfl (lv_at hl 0 rfl) ?_
    refine gX0_15 C hd (rfl : kd 130 = 0) (q := 132) rfl dX0_findPlaces_14 (fun y3 => ?_)
    refine lv_iload_n hx hb dX0_findPlaces_17 rfl (lv_at hl 1 rfl) ?_
    refine lv_aload_n hx hb dX0_findPlaces_18 rfl (lv_at hl 0 rfl) ?_
    refine gX0_30 C hd (rfl : kd 130 = 0) h dX0_findPlaces_19 (fun q4 kq4 h => ?_)
    refine lv_aload_n hx hb dX0_findPlaces_22 rfl (lv_at hl 0 rfl) ?_
    refine gX0_9 C hd (rfl : kd 130 = 0) (q := 131) rfl dX0_findPlaces_23 (fun y5 => ?_)
    refine lv_iload_n hx hb dX0_findPlaces_26 rfl (lv_at hl 1 rfl) ?_
    obtain ⟨x6, S1, hc, h⟩ := bd_some h
    refine R_cVi C hd (ccX8_placeOf l G kq4 y5 hc) kX0_55 rfl (by decide) kq4 hl.1 ⟨by decide, by decide⟩ rfl rfl (Nat.le_of_ble_eq_true rfl) dX0_findPlaces_27 ⟨Nat.zero_le _, Nat.zero_le _⟩ (fun H locs hd => ?_)
    generalize S1 = S at h hd
    refine R_iast C hd y3 h dX0_findPlaces_30 (fun S H locs hd h => ?_)
    refine R_vi h (fun x7 ex7 h => ?_)
    refine lv_iinc (v := x7) (lv' := [(1, .int x7), (0, .ref (gR G 130))]) hx hb dX0_findPlaces_31 hl (k := 1) rfl (by rw [ex7]; rfl) (by decide) rfl (fun ls hl => ?_)
    refine lv_goto (tgt := 2) hx hb dX0_findPlaces_34 (by decide) ?_
    exact hr2 x7 _ _ _ _ _  hd (lv_sub hl [1, 0] rfl) h
def LX0_findPlaces_2 : Nat → Int32 → St → Option St
  | 0 => fun _ _ => none
  | n + 1 => fun l1 S => KX0_findPlaces_2 (LX0_findPlaces_2 n) l1 S
theorem sLX0_findPlaces_2 (C : Cx p s m args meth c cX0_findPlaces 2 RX0 G) (hr : meth.sig.returnType = none) : ∀ (n : Nat) (l1 : Int32) (S : St) (res : St) (H : Heap) (locs : List Loc) (ls : Array Slot), Dy G S s H locs → lv_has ls 2 [(0, .ref (gR G 130)), (1, .int l1)] → LX0_findPlaces_2 n l1 S = some res → W p l e (rmL 3 0 0) s m args below meth c H locs 0 0 (MQ below (QV G res) args s 0 0 (Ab G)) (F0 m 2 ls []) := by
  intro n
  induction n with
  | zero => intro l1 S res H locs ls  hd hl h; cases h
  | succ n ih =>
    intro l1 S res H locs ls  hd hl h
    exact sKX0_findPlaces_2 C hr ih  hd hl h
def fX0_findPlaces  (S : St) : Option St :=
  (LX0_findPlaces_2 FU 0 S)
set_option maxHeartbeats 4000000 in
set_option maxRecDepth 20000 in
theorem sfX0_findPlaces (C : Cx p s m args meth c cX0_findPlaces 2 RX0 G) (hr : meth.sig.returnType = none)  {S : St} {res : St} {H : Heap} {locs : List Loc} {ls : Array Slot}  (hd : Dy G S s H locs) (hl : lv_has ls 2 [(0, .ref (gR G 130))]) (h : fX0_findPlaces  S = some res) : W p l e (rmL 3 0 0) s m args below meth c H locs 0 0 (MQ below (QV G res) args s 0 0 (Ab G)) (F0 m 0 ls []) := by
  unfold fX0_findPlaces at h
  have hx := C.1.1
  have hb := C.1.2.1
  refine lv_iconst (v := 0) hx hb dX0_findPlaces_0 (by decide) ?_
  refine lv_istore_n (lv' := [(1, .int 0), (0, .ref (gR G 130))]) hx hb dX0_findPlaces_1 rfl hl (by decide) rfl (fun ls hl => ?_)
  exact sLX0_findPlaces_2 C hr _ 0 _ _ _ _ _  hd (lv_sub hl [1, 0] rfl) h
set_option maxRecDepth 20000 in
theorem ccX0_findPlaces (l : Launch) (G : Gt)  {S : St} {res : St}  (h : fX0_findPlaces  S = some res) : Met l yX0_findPlaces (wm yX0_findPlaces cX0_findPlaces 2 (none)) (rmL 3 0 0) (PcW G S [.ref (gR G 130)]) (QV G res) 0 0 (Ab G) := by
  refine Met.ofW (cc := cX0_findPlaces) (maxL := 2) (ret := none) (by decide) rfl ?_
  intro p e s m args below meth c s₁ B hml hv
  obtain ⟨rfl, hK, hP⟩ := hv
  have C : Cx p s m _ meth c cX0_findPlaces 2 RX0 G := ⟨⟨B.exec, B.bytes, hml, findClass_of_methodNamed B.named, fun w hw => atoms_spec (ws := wm yX0_findPlaces cX0_findPlaces 2 (none)) B.pre w (List.mem_cons_of_mem _ hw)⟩, B.notSynchronized, hK⟩
  have hl := lv_entry ([.ref (gR G 130)]) (n := 2) (Nat.le_of_ble_eq_true rfl)
  rw [lg_entry_eq]
  generalize (lg_sl ([.ref (gR G 130)]) ++ List.replicate (2 - (lg_sl ([.ref (gR G 130)])).length) Slot.unset).toArray = ls at hl ⊢
  exact sfX0_findPlaces C B.returns  ⟨hP, va_S.rf⟩ hl h
end T20
