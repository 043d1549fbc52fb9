section T28
variable {p : Program} {l : Launch} {e : Env} {s : State} {m : MethodId} {args : Array Value} {below : List Frame} {meth : Method} {c : Code} {G : Gt}
def fX9_common (a1 : Int32) (a2 : Int32) (S : St) : Option TR :=
  bt (fX9_needField a1 S) fun x1 S => bt (fX9_needField a2 S) fun x2 S => gm S 0 3 8 fun q4 => bd (fX5_inCommon q4 a1 a2 S) fun x5 S => tri x5 S
set_option maxHeartbeats 4000000 in
set_option maxRecDepth 20000 in
theorem sfX9_common (C : Cx p s m args meth c cX9_common 3 RX9 G) (hr : meth.sig.returnType = some .int) (ht : ∀ x ∈ c.exceptionTable.toList, False) (hst : l.stackTraces = false) {a1 : Int32} {a2 : Int32} {S : St} {res : TR} {H : Heap} {locs : List Loc} {ls : Array Slot}  (hd : Dy G S s H locs) (hl : lv_has ls 3 [(0, .ref (gR G 0)), (1, .int a1), (2, .int a2)]) (h : fX9_common a1 a2 S = some res) : W p l e (rmL 7 2 12) s m args below meth c H locs 0 0 (vx_MQ below (QTI G res) (XT G res) args s 2 12 (Ab G)) (F0 m 0 ls []) := by
  unfold fX9_common at h
  have hx := C.1.1
  have hb := C.1.2.1
  refine lv_aload_n hx hb dX9_common_0 rfl (lv_at hl 0 rfl) ?_
  refine lv_iload_n hx hb dX9_common_1 rfl (lv_at hl 1 rfl) ?_
  refine R_tVv C hd ht hst h (fun r0 hc => ccX9_needField l G hst  hc) kX9_129 rfl (by decide) (rfl : kd 0 = 9) hl.1 ⟨by decide, by decide⟩ rfl rfl (Nat.le_of_ble_eq_true rfl) dX9_common_2 ⟨by decide, by decide⟩ (by decide) (by decide) (fun x1 S H locs hd h => ?_)
  refine lv_aload_n hx hb dX9_common_5 rfl (lv_at hl 0 rfl) ?_
  refine lv_iload_n hx hb dX9_common_6 rfl (lv_at hl 2 rfl) ?_
  refine R_tVv C hd ht hst h (fun r0 hc => ccX9_needField l G hst  hc) kX9_129 rfl (by decide) (rfl : kd 0 = 9) hl.1 ⟨by decide, by decide⟩ rfl rfl (Nat.le_of_ble_eq_true rfl) dX9_common_7 ⟨by decide, by decide⟩ (by decide) (by decide) (fun x2 S H locs hd h => ?_)
  refine lv_aload_n hx hb dX9_common_10 rfl (lv_at hl 0 rfl) ?_
  refine gX9_63 C hd (rfl : kd 0 = 9) (q := 140) rfl dX9_common_11 (fun y3 => ?_)
  refine lv_aload_n hx hb dX9_common_14 rfl (lv_at hl 0 rfl) ?_
  refine gX9_16 C hd (rfl : kd 0 = 9) h dX9_common_15 (fun q4 kq4 h => ?_)
  refine lv_iload_n hx hb dX9_common_18 rfl (lv_at hl 1 rfl) ?_
  refine lv_iload_n hx hb dX9_common_19 rfl (lv_at hl 2 rfl) ?_
  obtain ⟨x5, S1, hc, h⟩ := bd_some h
  refine R_cVi C hd (ccX5_inCommon l G kq4 hc) kX9_229 rfl (by decide) y3 hl.1 ⟨by decide, by decide⟩ rfl rfl (Nat.le_of_ble_eq_true rfl) dX9_common_20 ⟨by decide, by decide⟩ (fun H locs hd => ?_)
  generalize S1 = S at h hd
  exact R_tiret C hr hd h (by decide) (by decide) dX9_common_23
set_option maxRecDepth 20000 in
theorem ccX9_common (l : Launch) (G : Gt) (hst : l.stackTraces = false) {a1 : Int32} {a2 : Int32} {S : St} {res : TR}  (h : fX9_common a1 a2 S = some res) : vx_Met l yX9_common (wm yX9_common cX9_common 3 (some .int)) (rmL 7 2 12) (PcW G S [.ref (gR G 0), .int a1, .int a2]) (QTI G res) (XT G res) 2 12 (Ab G) := by
  refine vx_ofW (cc := cX9_common) (maxL := 3) (ret := (some .int)) (by decide) rfl ?_
  intro p e s m args below meth c s₁ B hml ht hv
  obtain ⟨rfl, hK, hP⟩ := hv
  have C : Cx p s m _ meth c cX9_common 3 RX9 G := ⟨⟨B.exec, B.bytes, hml, findClass_of_methodNamed B.named, fun w hw => atoms_spec (ws := wm yX9_common cX9_common 3 (some .int)) B.pre w (List.mem_cons_of_mem _ hw)⟩, B.notSynchronized, hK⟩
  have hl := lv_entry ([.ref (gR G 0), .int a1, .int a2]) (n := 3) (Nat.le_of_ble_eq_true rfl)
  rw [lg_entry_eq]
  generalize (lg_sl ([.ref (gR G 0), .int a1, .int a2]) ++ List.replicate (3 - (lg_sl ([.ref (gR G 0), .int a1, .int a2])).length) Slot.unset).toArray = ls at hl ⊢
  exact sfX9_common C B.returns ht hst  ⟨hP, va_S.rf⟩ hl h
def fX9_nearest  (S : St) : Option (Int32 × St) :=
  gm S 0 3 8 fun q2 => bd (fX5_nearestCouple q2 S) fun x3 S => ri x3 S
set_option maxHeartbeats 4000000 in
set_option maxRecDepth 20000 in
theorem sfX9_nearest (C : Cx p s m args meth c cX9_nearest 1 RX9 G) (hr : meth.sig.returnType = some .int)  {S : St} {res : (Int32 × St)} {H : Heap} {locs : List Loc} {ls : Array Slot}  (hd : Dy G S s H locs) (hl : lv_has ls 1 [(0, .ref (gR G 0))]) (h : fX9_nearest  S = some res) : W p l e (rmL 5 0 0) s m args below meth c H locs 0 0 (MQ below (QI G res.1 res.2) args s 0 0 (Ab G)) (F0 m 0 ls []) := by
  unfold fX9_nearest at h
  have hx := C.1.1
  have hb := C.1.2.1
  refine lv_aload_n hx hb dX9_nearest_0 rfl (lv_at hl 0 rfl) ?_
  refine gX9_63 C hd (rfl : kd 0 = 9) (q := 140) rfl dX9_nearest_1 (fun y1 => ?_)
  refine lv_aload_n hx hb dX9_nearest_4 rfl (lv_at hl 0 rfl) ?_
  refine gX9_16 C hd (rfl : kd 0 = 9) h dX9_nearest_5 (fun q2 kq2 h => ?_)
  obtain ⟨x3, S1, hc, h⟩ := bd_some h
  refine R_cVi C hd (ccX5_nearestCouple l G kq2 hc) kX9_233 rfl (by decide) y1 hl.1 ⟨by decide, by decide⟩ rfl rfl (Nat.le_of_ble_eq_true rfl) dX9_nearest_8 ⟨Nat.zero_le _, Nat.zero_le _⟩ (fun H locs hd => ?_)
  generalize S1 = S at h hd
  exact R_iret C hr hd h dX9_nearest_11
set_option maxRecDepth 20000 in
theorem ccX9_nearest (l : Launch) (G : Gt)  {S : St} {res : (Int32 × St)}  (h : fX9_nearest  S = some res) : Met l yX9_nearest (wm yX9_nearest cX9_nearest 1 (some .int)) (rmL 5 0 0) (PcW G S [.ref (gR G 0)]) (QI G res.1 res.2) 0 0 (Ab G) := by
  refine Met.ofW (cc := cX9_nearest) (maxL := 1) (ret := (some .int)) (by decide) rfl ?_
  intro p e s m args below meth c s₁ B hml hv
  obtain ⟨rfl, hK, hP⟩ := hv
  have C : Cx p s m _ meth c cX9_nearest 1 RX9 G := ⟨⟨B.exec, B.bytes, hml, findClass_of_methodNamed B.named, fun w hw => atoms_spec (ws := wm yX9_nearest cX9_nearest 1 (some .int)) B.pre w (List.mem_cons_of_mem _ hw)⟩, B.notSynchronized, hK⟩
  have hl := lv_entry ([.ref (gR G 0)]) (n := 1) (Nat.le_of_ble_eq_true rfl)
  rw [lg_entry_eq]
  generalize (lg_sl ([.ref (gR G 0)]) ++ List.replicate (1 - (lg_sl ([.ref (gR G 0)])).length) Slot.unset).toArray = ls at hl ⊢
  exact sfX9_nearest C B.returns  ⟨hP, va_S.rf⟩ hl h
def fX9_far (a1 : Int32) (a2 : Int32) (S : St) : Option TR :=
  bt (fX9_needField a1 S) fun x1 S => bt (fX9_needField a2 S) fun x2 S => gm S 0 3 8 fun q3 => rd S (sr q3 7) ((a1 * 8) + a2) fun x5 => (if x5 < 1000000 then tri x5 S else tri ((-1)) S)
set_option maxHeartbeats 4000000 in
set_option maxRecDepth 20000 in
theorem sfX9_far (C : Cx p s m args meth c cX9_far 4 RX9 G) (hr : meth.sig.returnType = some .int) (ht : ∀ x ∈ c.exceptionTable.toList, False) (hst : l.stackTraces = false) {a1 : Int32} {a2 : Int32} {S : St} {res : TR} {H : Heap} {locs : List Loc} {ls : Array Slot}  (hd : Dy G S s H locs) (hl : lv_has ls 4 [(0, .ref (gR G 0)), (1, .int a1), (2, .int a2)]) (h : fX9_far a1 a2 S = some res) : W p l e (rmL 7 2 12) s m args below meth c H locs 0 0 (vx_MQ below (QTI G res) (XT G res) args s 2 12 (Ab G)) (F0 m 0 ls []) := by
  unfold fX9_far at h
  have hx := C.1.1
  have hb := C.1.2.1
  refine lv_aload_n hx hb dX9_far_0 rfl (lv_at hl 0 rfl) ?_
  refine lv_iload_n hx hb dX9_far_1 rfl (lv_at hl 1 rfl) ?_
  refine R_tVv C hd ht hst h (fun r0 hc => ccX9_needField l G hst  hc) kX9_129 rfl (by decide) (rfl : kd 0 = 9) hl.1 ⟨by decide, by decide⟩ rfl rfl (Nat.le_of_ble_eq_true rfl) dX9_far_2 ⟨by decide, by decide⟩ (by decide) (by decide) (fun x1 S H locs hd h => ?_)
  refine lv_aload_n hx hb dX9_far_5 rfl (lv_at hl 0 rfl) ?_
  refine lv_iload_n hx hb dX9_far_6 rfl (lv_at hl 2 rfl) ?_
  refine R_tVv C hd ht hst h (fun r0 hc => ccX9_needField l G hst  hc) kX9_129 rfl (by decide) (rfl : kd 0 = 9) hl.1 ⟨by decide, by decide⟩ rfl rfl (Nat.le_of_ble_eq_true rfl) dX9_far_7 ⟨by decide, by decide⟩ (by decide) (by decide) (fun x2 S H locs hd h => ?_)
  refine lv_aload_n hx hb dX9_far_10 rfl (lv_at hl 0 rfl) ?_
  refine gX9_16 C hd (rfl : kd 0 = 9) h dX9_far_11 (fun q3 kq3 h => ?_)
  refine gX9_237 C hd kq3 (q := sr q3 7) rfl dX9_far_14 (fun y4 => ?_)
  refine lv_iload_n hx hb dX9_far_17 rfl (lv_at hl 1 rfl) ?_
  refine lv_bipush (v := 8) hx hb dX9_far_18 (by decide) ?_
  refine lv_imul hx hb dX9_far_20 ?_
  refine lv_iload_n hx hb dX9_far_21 rfl (lv_at hl 2 rfl) ?_
  refine lv_iadd hx hb dX9_far_22 ?_
  refine R_iald C hd y4 h dX9_far_23 (fun x5 h => ?_)
  refine lv_istore_n (lv' := [(3, .int x5), (0, .ref (gR G 0)), (1, .int a1), (2, .int a2)]) hx hb dX9_far_24 rfl hl (by decide) rfl (fun ls hl => ?_)
  refine lv_iload_n hx hb dX9_far_25 rfl (lv_at hl 0 rfl) ?_
  refine lv_ldc hx hb C.1.2.2.2.1 (C.1.2.2.2.2 _ kcX9_240) dX9_far_26 ?_
  refine lv_icmp_lt (tgt := 35) hx hb dX9_far_28 (by decide) (fun c6 => ?_) (fun c6 => ?_)
  · rw [if_pos c6] at h
    refine lv_iload_n hx hb dX9_far_35 rfl (lv_at hl 0 rfl) ?_
    exact R_tiret C hr hd h (by decide) (by decide) dX9_far_36
  · rw [if_neg c6] at h
    refine lv_iconst (v := -1) hx hb dX9_far_31 (by decide) ?_
    refine lv_goto (tgt := 36) hx hb dX9_far_32 (by decide) ?_
    exact R_tiret C hr hd h (by decide) (by decide) dX9_far_36
set_option maxRecDepth 20000 in
theorem ccX9_far (l : Launch) (G : Gt) (hst : l.stackTraces = false) {a1 : Int32} {a2 : Int32} {S : St} {res : TR}  (h : fX9_far a1 a2 S = some res) : vx_Met l yX9_far (wm yX9_far cX9_far 4 (some .int)) (rmL 7 2 12) (PcW G S [.ref (gR G 0), .int a1, .int a2]) (QTI G res) (XT G res) 2 12 (Ab G) := by
  refine vx_ofW (cc := cX9_far) (maxL := 4) (ret := (some .int)) (by decide) rfl ?_
  intro p e s m args below meth c s₁ B hml ht hv
  obtain ⟨rfl, hK, hP⟩ := hv
  have C : Cx p s m _ meth c cX9_far 4 RX9 G := ⟨⟨B.exec, B.bytes, hml, findClass_of_methodNamed B.named, fun w hw => atoms_spec (ws := wm yX9_far cX9_far 4 (some .int)) B.pre w (List.mem_cons_of_mem _ hw)⟩, B.notSynchronized, hK⟩
  have hl := lv_entry ([.ref (gR G 0), .int a1, .int a2]) (n := 4) (Nat.le_of_ble_eq_true rfl)
  rw [lg_entry_eq]
  generalize (lg_sl ([.ref (gR G 0), .int a1, .int a2]) ++ List.replicate (4 - (lg_sl ([.ref (gR G 0), .int a1, .int a2])).length) Slot.unset).toArray = ls at hl ⊢
  exact sfX9_far C B.returns ht hst  ⟨hP, va_S.rf⟩ hl h
def fX9_round (a1 : Int32) (S : St) : Option TR :=
  bt (fX9_needField a1 S) fun x1 S => gm S 0 3 8 fun q3 => bd (fX5_tour q3 S) fun x4 S => tri x4 S
set_option maxHeartbeats 4000000 in
set_option maxRecDepth 20000 in
theorem sfX9_round (C : Cx p s m args meth c cX9_round 2 RX9 G) (hr : meth.sig.returnType = some .int) (ht : ∀ x ∈ c.exceptionTable.toList, False) (hst : l.stackTraces = false) {a1 : Int32} {S : St} {res : TR} {H : Heap} {locs : List Loc} {ls : Array Slot}  (hd : Dy G S s H locs) (hl : lv_has ls 2 [(0, .ref (gR G 0)), (1, .int a1)]) (h : fX9_round a1 S = some res) : W p l e (rmL 7 1 6) s m args below meth c H locs 0 0 (vx_MQ below (QTI G res) (XT G res) args s 1 6 (Ab G)) (F0 m 0 ls []) := by
  unfold fX9_round at h
  have hx := C.1.1
  have hb := C.1.2.1
  refine lv_aload_n hx hb dX9_round_0 rfl (lv_at hl 0 rfl) ?_
  refine lv_iload_n hx hb dX9_round_1 rfl (lv_at hl 1 rfl) ?_
  refine R_tVv C hd ht hst h (fun r0 hc => ccX9_needField l G hst  hc) kX9_129 rfl (by decide) (rfl : kd 0 = 9) hl.1 ⟨by decide, by decide⟩ rfl rfl (Nat.le_of_ble_eq_true rfl) dX9_round_2 ⟨by decide, by decide⟩ (by decide) (by decide) (fun x1 S H locs hd h => ?_)
  refine lv_aload_n hx hb dX9_round_5 rfl (lv_at hl 0 rfl) ?_
  refine gX9_63 C hd (rfl : kd 0 = 9) (q := 140) rfl dX9_round_6 (fun y2 => ?_)
  refine lv_aload_n hx hb dX9_round_9 rfl (lv_at hl 0 rfl) ?_
  refine gX9_16 C hd (rfl : kd 0 = 9) h dX9_round_10 (fun q3 kq3 h => ?_)
  obtain ⟨x4, S1, hc, h⟩ := bd_some h
  refine R_cVi C hd (ccX5_tour l G kq3 hc) kX9_241 rfl (by decide) y2 hl.1 ⟨by decide, by decide⟩ rfl rfl (Nat.le_of_ble_eq_true rfl) dX9_round_13 ⟨by decide, by decide⟩ (fun H locs hd => ?_)
  generalize S1 = S at h hd
  exact R_tiret C hr hd h (by decide) (by decide) dX9_round_16
set_option maxRecDepth 20000 in
theorem ccX9_round (l : Launch) (G : Gt) (hst : l.stackTraces = false) {a1 : Int32} {S : St} {res : TR}  (h : fX9_round a1 S = some res) : vx_Met l yX9_round (wm yX9_round cX9_round 2 (some .int)) (rmL 7 1 6) (PcW G S [.ref (gR G 0), .int a1]) (QTI G res) (XT G res) 1 6 (Ab G) := by
  refine vx_ofW (cc := cX9_round) (maxL := 2) (ret := (some .int)) (by decide) rfl ?_
  intro p e s m args below meth c s₁ B hml ht hv
  obtain ⟨rfl, hK, hP⟩ := hv
  have C : Cx p s m _ meth c cX9_round 2 RX9 G := ⟨⟨B.exec, B.bytes, hml, findClass_of_methodNamed B.named, fun w hw => atoms_spec (ws := wm yX9_round cX9_round 2 (some .int)) B.pre w (List.mem_cons_of_mem _ hw)⟩, B.notSynchronized, hK⟩
  have hl := lv_entry ([.ref (gR G 0), .int a1]) (n := 2) (Nat.le_of_ble_eq_true rfl)
  rw [lg_entry_eq]
  generalize (lg_sl ([.ref (gR G 0), .int a1]) ++ List.replicate (2 - (lg_sl ([.ref (gR G 0), .int a1])).length) Slot.unset).toArray = ls at hl ⊢
  exact sfX9_round C B.returns ht hst  ⟨hP, va_S.rf⟩ hl h
def BX9_wedding_30 (s1 : Nat) (s3 : Int32) (S : St) : Option TR :=
  bd (fX5_meeting s1 37 s3 S) fun x1 S => tri x1 S
set_option maxHeartbeats 4000000 in
set_option maxRecDepth 20000 in
theorem sBX9_wedding_30 (C : Cx p s m args meth c cX9_wedding 2 RX9 G) (hr : meth.sig.returnType = some .int) (ht : ∀ x ∈ c.exceptionTable.toList, False) (hst : l.stackTraces = false) {s1 : Nat} {s3 : Int32} {S : St} {res : TR} {H : Heap} {locs : List Loc} {ls : Array Slot} (ks1 : kd s1 = 8) (hd : Dy G S s H locs) (hl : lv_has ls 2 [(0, .ref (gR G 0))]) (h : BX9_wedding_30 s1 s3 S = some res) : W p l e (rmL 7 1 6) s m args below meth c H locs 1 6 (vx_MQ below (QTI G res) (XT G res) args s 1 6 (Ab G)) (F0 m 30 ls [.int s3, .ref (gR G 37), .ref (gR G s1), .ref (gR G 140)]) := by
  unfold BX9_wedding_30 at h
  have hx := C.1.1
  have hb := C.1.2.1
  obtain ⟨x1, S1, hc, h⟩ := bd_some h
  refine R_cVi C hd (ccX5_meeting l G ks1 (rfl : kd 37 = 20) hc) kX9_244 rfl (by decide) (rfl : kd 140 = 5) hl.1 ⟨by decide, by decide⟩ rfl rfl (Nat.le_of_ble_eq_true rfl) dX9_wedding_30 ⟨by decide, by decide⟩ (fun H locs hd => ?_)
  generalize S1 = S at h hd
  exact R_tiret C hr hd h (by decide) (by decide) dX9_wedding_33
def fX9_wedding (a1 : Int32) (S : St) : Option TR :=
  bt (fX9_needWhat a1 1 S) fun x1 S => gm S 0 3 8 fun q3 => (if a1 = 0 then (BX9_wedding_30 q3 1 S) else (BX9_wedding_30 q3 0 S))
set_option maxHeartbeats 4000000 in
set_option maxRecDepth 20000 in
theorem sfX9_wedding (C : Cx p s m args meth c cX9_wedding 2 RX9 G) (hr : meth.sig.returnType = some .int) (ht : ∀ x ∈ c.exceptionTable.toList, False) (hst : l.stackTraces = false) {a1 : Int32} {S : St} {res : TR} {H : Heap} {locs : List Loc} {ls : Array Slot}  (hd : Dy G S s H locs) (hl : lv_has ls 2 [(0, .ref (gR G 0)), (1, .int a1)]) (h : fX9_wedding a1 S = some res) : W p l e (rmL 7 1 6) s m args below meth c H locs 0 0 (vx_MQ below (QTI G res) (XT G res) args s 1 6 (Ab G)) (F0 m 0 ls []) := by
  unfold fX9_wedding at h
  have hx := C.1.1
  have hb := C.1.2.1
  refine lv_aload_n hx hb dX9_wedding_0 rfl (lv_at hl 0 rfl) ?_
  refine lv_iload_n hx hb dX9_wedding_1 rfl (lv_at hl 1 rfl) ?_
  refine lv_iconst (v := 1) hx hb dX9_wedding_2 (by decide) ?_
  refine R_tVv C hd ht hst h (fun r0 hc => ccX9_needWhat l G hst  hc) kX9_217 rfl (by decide) (rfl : kd 0 = 9) hl.1 ⟨by decide, by decide⟩ rfl rfl (Nat.le_of_ble_eq_true rfl) dX9_wedding_3 ⟨by decide, by decide⟩ (by decide) (by decide) (fun x1 S H locs hd h => ?_)
  refine lv_aload_n hx hb dX9_wedding_6 rfl (lv_at hl 0 rfl) ?_
  refine gX9_63 C hd (rfl : kd 0 = 9) (q := 140) rfl dX9_wedding_7 (fun y2 => ?_)
  refine lv_aload_n hx hb dX9_wedding_10 rfl (lv_at hl 0 rfl) ?_
  refine gX9_16 C hd (rfl : kd 0 = 9) h dX9_wedding_11 (fun q3 kq3 h => ?_)
  refine lv_aload_n hx hb dX9_wedding_14 rfl (lv_at hl 0 rfl) ?_
  refine gX9_35 C hd (rfl : kd 0 = 9) (q := 36) rfl dX9_wedding_15 (fun y4 => ?_)
  refine gX9_111 C hd y4 (q := 37) rfl dX9_wedding_18 (fun y5 => ?_)
  refine lv_iload_n hx hb dX9_wedding_21 rfl (lv_at hl 1 rfl) ?_
  refine lv_if_ne (tgt := 29) hx hb dX9_wedding_22 (by decide) (fun c6 => ?_) (fun c6 => ?_)
  · rw [if_neg c6] at h
    refine lv_iconst (v := 0) hx hb dX9_wedding_29 (by decide) ?_
    exact sBX9_wedding_30 C hr ht hst kq3 hd (lv_sub hl [0] rfl) h
  · rw [if_pos c6] at h
    refine lv_iconst (v := 1) hx hb dX9_wedding_25 (by decide) ?_
    refine lv_goto (tgt := 30) hx hb dX9_wedding_26 (by decide) ?_
    exact sBX9_wedding_30 C hr ht hst kq3 hd (lv_sub hl [0] rfl) h
set_option maxRecDepth 20000 in
theorem ccX9_wedding (l : Launch) (G : Gt) (hst : l.stackTraces = false) {a1 : Int32} {S : St} {res : TR}  (h : fX9_wedding a1 S = some res) : vx_Met l yX9_wedding (wm yX9_wedding cX9_wedding 2 (some .int)) (rmL 7 1 6) (PcW G S [.ref (gR G 0), .int a1]) (QTI G res) (XT G res) 1 6 (Ab G) := by
  refine vx_ofW (cc := cX9_wedding) (maxL := 2) (ret := (some .int)) (by decide) rfl ?_
  intro p e s m args below meth c s₁ B hml ht hv
  obtain ⟨rfl, hK, hP⟩ := hv
  have C : Cx p s m _ meth c cX9_wedding 2 RX9 G := ⟨⟨B.exec, B.bytes, hml, findClass_of_methodNamed B.named, fun w hw => atoms_spec (ws := wm yX9_wedding cX9_wedding 2 (some .int)) B.pre w (List.mem_cons_of_mem _ hw)⟩, B.notSynchronized, hK⟩
  have hl := lv_entry ([.ref (gR G 0), .int a1]) (n := 2) (Nat.le_of_ble_eq_true rfl)
  rw [lg_entry_eq]
  generalize (lg_sl ([.ref (gR G 0), .int a1]) ++ List.replicate (2 - (lg_sl ([.ref (gR G 0), .int a1])).length) Slot.unset).toArray = ls at hl ⊢
  exact sfX9_wedding C B.returns ht hst  ⟨hP, va_S.rf⟩ hl h
def fX9_heirs (a1 : Int32) (S : St) : Option TR :=
  (if a1 < 1 then trx 2 S else (if a1 ≤ 4 then gm S 0 3 8 fun q4 => bd (fX5_share q4 a1 S) fun x5 S => tri x5 S else trx 2 S))
set_option maxHeartbeats 4000000 in
set_option maxRecDepth 20000 in
theorem sfX9_heirs (C : Cx p s m args meth c cX9_heirs 2 RX9 G) (hr : meth.sig.returnType = some .int) (ht : ∀ x ∈ c.exceptionTable.toList, False) (hst : l.stackTraces = false) {a1 : Int32} {S : St} {res : TR} {H : Heap} {locs : List Loc} {ls : Array Slot}  (hd : Dy G S s H locs) (hl : lv_has ls 2 [(0, .ref (gR G 0)), (1, .int a1)]) (h : fX9_heirs a1 S = some res) : W p l e (rmL 6 1 6) s m args below meth c H locs 0 0 (vx_MQ below (QTI G res) (XT G res) args s 1 6 (Ab G)) (F0 m 0 ls []) := by
  unfold fX9_heirs at h
  have hx := C.1.1
  have hb := C.1.2.1
  refine lv_iload_n hx hb dX9_heirs_0 rfl (lv_at hl 1 rfl) ?_
  refine lv_iconst (v := 1) hx hb dX9_heirs_1 (by decide) ?_
  refine lv_icmp_lt (tgt := 10) hx hb dX9_heirs_2 (by decide) (fun c1 => ?_) (fun c1 => ?_)
  · rw [if_pos c1] at h
    exact R_throw C hd h ht hst hl.1 ktX9_2_82 (List.mem_of_getElem? (i := 29) rfl) (Nat.le_of_ble_eq_true rfl) (Nat.le_of_ble_eq_true rfl) (Nat.le_of_ble_eq_true rfl) (Nat.le_of_ble_eq_true rfl) (Nat.le_of_ble_eq_true rfl) (Nat.le_of_ble_eq_true rfl) dX9_heirs_10 dX9_heirs_13 dX9_heirs_14 dX9_heirs_16 dX9_heirs_19
  · rw [if_neg c1] at h
    refine lv_iload_n hx hb dX9_heirs_5 rfl (lv_at hl 1 rfl) ?_
    refine lv_iconst (v := 4) hx hb dX9_heirs_6 (by decide) ?_
    refine lv_icmp_le (tgt := 20) hx hb dX9_heirs_7 (by decide) (fun c2 => ?_) (fun c2 => ?_)
    · rw [if_pos c2] at h
      refine lv_aload_n hx hb dX9_heirs_20 rfl (lv_at hl 0 rfl) ?_
      refine gX9_63 C hd (rfl : kd 0 = 9) (q := 140) rfl dX9_heirs_21 (fun y3 => ?_)
      refine lv_aload_n hx hb dX9_heirs_24 rfl (lv_at hl 0 rfl) ?_
      refine gX9_16 C hd (rfl : kd 0 = 9) h dX9_heirs_25 (fun q4 kq4 h => ?_)
      refine lv_iload_n hx hb dX9_heirs_28 rfl (lv_at hl 1 rfl) ?_
      obtain ⟨x5, S1, hc, h⟩ := bd_some h
      refine R_cVi C hd (ccX5_share l G kq4 hc) kX9_250 rfl (by decide) y3 hl.1 ⟨by decide, by decide⟩ rfl rfl (Nat.le_of_ble_eq_true rfl) dX9_heirs_29 ⟨by decide, by decide⟩ (fun H locs hd => ?_)
      generalize S1 = S at h hd
      exact R_tiret C hr hd h (by decide) (by decide) dX9_heirs_32
    · rw [if_neg c2] at h
      exact R_throw C hd h ht hst hl.1 ktX9_2_82 (List.mem_of_getElem? (i := 29) rfl) (Nat.le_of_ble_eq_true rfl) (Nat.le_of_ble_eq_true rfl) (Nat.le_of_ble_eq_true rfl) (Nat.le_of_ble_eq_true rfl) (Nat.le_of_ble_eq_true rfl) (Nat.le_of_ble_eq_true rfl) dX9_heirs_10 dX9_heirs_13 dX9_heirs_14 dX9_heirs_16 dX9_heirs_19
set_option maxRecDepth 20000 in
theorem ccX9_heirs (l : Launch) (G : Gt) (hst : l.stackTraces = false) {a1 : Int32} {S : St} {res : TR}  (h : fX9_heirs a1 S = some res) : vx_Met l yX9_heirs (wm yX9_heirs cX9_heirs 2 (some .int)) (rmL 6 1 6) (PcW G S [.ref (gR G 0), .int a1]) (QTI G res) (XT G res) 1 6 (Ab G) := by
  refine vx_ofW (cc := cX9_heirs) (maxL := 2) (ret := (some .int)) (by decide) rfl ?_
  intro p e s m args below meth c s₁ B hml ht hv
  obtain ⟨rfl, hK, hP⟩ := hv
  have C : Cx p s m _ meth c cX9_heirs 2 RX9 G := ⟨⟨B.exec, B.bytes, hml, findClass_of_methodNamed B.named, fun w hw => atoms_spec (ws := wm yX9_heirs cX9_heirs 2 (some .int)) B.pre w (List.mem_cons_of_mem _ hw)⟩, B.notSynchronized, hK⟩
  have hl := lv_entry ([.ref (gR G 0), .int a1]) (n := 2) (Nat.le_of_ble_eq_true rfl)
  rw [lg_entry_eq]
  generalize (lg_sl ([.ref (gR G 0), .int a1]) ++ List.replicate (2 - (lg_sl ([.ref (gR G 0), .int a1])).length) Slot.unset).toArray = ls at hl ⊢
  exact sfX9_heirs C B.returns ht hst  ⟨hP, va_S.rf⟩ hl h
def BX9_hear_38  (S : St) : Option TR :=
  bv (fX4_refuse 36 2 S) fun S => tri ((-1)) S
set_option maxHeartbeats 4000000 in
set_option maxRecDepth 20000 in
theorem sBX9_hear_38 (C : Cx p s m args meth c cX9_hear 4 RX9 G) (hr : meth.sig.returnType = some .int) (ht : ∀ x ∈ c.exceptionTable.toList, False) (hst : l.stackTraces = false)  {S : St} {res : TR} {H : Heap} {locs : List Loc} {ls : Array Slot}  (hd : Dy G S s H locs) (hl : lv_has ls 4 [(0, .ref (gR G 0))]) (h : BX9_hear_38  S = some res) : W p l e (rmL 7 2 12) s m args below meth c H locs 2 12 (vx_MQ below (QTI G res) (XT G res) args s 2 12 (Ab G)) (F0 m 38 ls []) := by
  unfold BX9_hear_38 at h
  have hx := C.1.1
  have hb := C.1.2.1
  refine lv_aload_n hx hb dX9_hear_38 rfl (lv_at hl 0 rfl) ?_
  refine gX9_35 C hd (rfl : kd 0 = 9) (q := 36) rfl dX9_hear_39 (fun y1 => ?_)
  refine lv_iconst (v := 2) hx hb dX9_hear_42 (by decide) ?_
  obtain ⟨S1, hc, h⟩ := bv_some h
  refine R_cVv C hd (ccX4_refuse l G y1 hc) kX9_92 rfl (by decide) y1 hl.1 ⟨by decide, by decide⟩ rfl rfl (Nat.le_of_ble_eq_true rfl) dX9_hear_43 ⟨by decide, by decide⟩ (fun H locs hd => ?_)
  generalize S1 = S at h hd
  refine lv_iconst (v := -1) hx hb dX9_hear_46 (by decide) ?_
  exact R_tiret C hr hd h (by decide) (by decide) dX9_hear_47
def BX9_hear_15 (l1 : Int32) (l2 : Int32) (l3 : Int32) (S : St) : Option TR :=
  (if l2 < 1 then (BX9_hear_38  S) else (if 30 < l2 then (BX9_hear_38  S) else (if (S 36 4) < 8 then bv (fX4_addHeard 36 l1 l2 l3 S) fun S => tri (S 36 4) S else (BX9_hear_38  S))))
set_option maxHeartbeats 4000000 in
set_option maxRecDepth 20000 in
theorem sBX9_hear_15 (C : Cx p s m args meth c cX9_hear 4 RX9 G) (hr : meth.sig.returnType = some .int) (ht : ∀ x ∈ c.exceptionTable.toList, False) (hst : l.stackTraces = false) {l1 : Int32} {l2 : Int32} {l3 : Int32} {S : St} {res : TR} {H : Heap} {locs : List Loc} {ls : Array Slot}  (hd : Dy G S s H locs) (hl : lv_has ls 4 [(0, .ref (gR G 0)), (1, .int l1), (2, .int l2), (3, .int l3)]) (h : BX9_hear_15 l1 l2 l3 S = some res) : W p l e (rmL 7 2 12) s m args below meth c H locs 2 12 (vx_MQ below (QTI G res) (XT G res) args s 2 12 (Ab G)) (F0 m 15 ls []) := by
  unfold BX9_hear_15 at h
  have hx := C.1.1
  have hb := C.1.2.1
  refine lv_iload_n hx hb dX9_hear_15 rfl (lv_at hl 2 rfl) ?_
  refine lv_iconst (v := 1) hx hb dX9_hear_16 (by decide) ?_
  refine lv_icmp_lt (tgt := 38) hx hb dX9_hear_17 (by decide) (fun c1 => ?_) (fun c1 => ?_)
  · rw [if_pos c1] at h
    exact sBX9_hear_38 C hr ht hst  hd (lv_sub hl [0] rfl) h
  · rw [if_neg c1] at h
    refine lv_iload_n hx hb dX9_hear_20 rfl (lv_at hl 2 rfl) ?_
    refine lv_bipush (v := 30) hx hb dX9_hear_21 (by decide) ?_
    refine lv_icmp_gt (tgt := 38) hx hb dX9_hear_23 (by decide) (fun c2 => ?_) (fun c2 => ?_)
    · rw [if_pos c2] at h
      exact sBX9_hear_38 C hr ht hst  hd (lv_sub hl [0] rfl) h
    · rw [if_neg c2] at h
      refine lv_aload_n hx hb dX9_hear_26 rfl (lv_at hl 0 rfl) ?_
      refine gX9_35 C hd (rfl : kd 0 = 9) (q := 36) rfl dX9_hear_27 (fun y3 => ?_)
      refine gX9_118 C hd y3 dX9_hear_30 ?_
      refine lv_bipush (v := 8) hx hb dX9_hear_33 (by decide) ?_
      refine lv_icmp_lt (tgt := 48) hx hb dX9_hear_35 (by decide) (fun c4 => ?_) (fun c4 => ?_)
      · rw [if_pos c4] at h
        refine lv_aload_n hx hb dX9_hear_48 rfl (lv_at hl 0 rfl) ?_
        refine gX9_35 C hd (rfl : kd 0 = 9) (q := 36) rfl dX9_hear_49 (fun y5 => ?_)
        refine lv_iload_n hx hb dX9_hear_52 rfl (lv_at hl 1 rfl) ?_
        refine lv_iload_n hx hb dX9_hear_53 rfl (lv_at hl 2 rfl) ?_
        refine lv_iload_n hx hb dX9_hear_54 rfl (lv_at hl 3 rfl) ?_
        obtain ⟨S1, hc, h⟩ := bv_some h
        refine R_cVv C hd (ccX4_addHeard l G y5 hc) kX9_253 rfl (by decide) y5 hl.1 ⟨by decide, by decide⟩ rfl rfl (Nat.le_of_ble_eq_true rfl) dX9_hear_55 ⟨by decide, by decide⟩ (fun H locs hd => ?_)
        generalize S1 = S at h hd
        refine lv_aload_n hx hb dX9_hear_58 rfl (lv_at hl 0 rfl) ?_
        refine gX9_35 C hd (rfl : kd 0 = 9) (q := 36) rfl dX9_hear_59 (fun y6 => ?_)
        refine gX9_118 C hd y6 dX9_hear_62 ?_
        exact R_tiret C hr hd h (by decide) (by decide) dX9_hear_65
      · rw [if_neg c4] at h
        exact sBX9_hear_38 C hr ht hst  hd (lv_sub hl [0] rfl) h
def fX9_hear (a1 : Int32) (a2 : Int32) (a3 : Int32) (S : St) : Option TR :=
  bt (fX9_needField a1 S) fun x1 S => (if a3 = (-1) then (BX9_hear_15 a1 a2 a3 S) else bt (fX9_needField a3 S) fun x3 S => (BX9_hear_15 a1 a2 a3 S))
set_option maxHeartbeats 4000000 in
set_option maxRecDepth 20000 in
theorem sfX9_hear (C : Cx p s m args meth c cX9_hear 4 RX9 G) (hr : meth.sig.returnType = some .int) (ht : ∀ x ∈ c.exceptionTable.toList, False) (hst : l.stackTraces = false) {a1 : Int32} {a2 : Int32} {a3 : Int32} {S : St} {res : TR} {H : Heap} {locs : List Loc} {ls : Array Slot}  (hd : Dy G S s H locs) (hl : lv_has ls 4 [(0, .ref (gR G 0)), (1, .int a1), (2, .int a2), (3, .int a3)]) (h : fX9_hear a1 a2 a3 S = some res) : W p l e (rmL 7 2 12) s m args below meth c H locs 0 0 (vx_MQ below (QTI G res) (XT G res) args s 2 12 (Ab G)) (F0 m 0 ls []) := by
  unfold fX9_hear at h
  have hx := C.1.1
  have hb := C.1.2.1
  refine lv_aload_n hx hb dX9_hear_0 rfl (lv_at hl 0 rfl) ?_
  refine lv_iload_n hx hb dX9_hear_1 rfl (lv_at hl 1 rfl) ?_
  refine R_tVv C hd ht hst h (fun r0 hc => ccX9_needField l G hst  hc) kX9_129 rfl (by decide) (rfl : kd 0 = 9) hl.1 ⟨by decide, by decide⟩ rfl rfl (Nat.le_of_ble_eq_true rfl) dX9_hear_2 ⟨by decide, by decide⟩ (by decide) (by decide) (fun x1 S H locs hd h => ?_)
  refine lv_iload_n hx hb dX9_hear_5 rfl (lv_at hl 3 rfl) ?_
  refine lv_iconst (v := -1) hx hb dX9_hear_6 (by decide) ?_
  refine lv_icmp_eq (tgt := 15) hx hb dX9_hear_7 (by decide) (fun c2 => ?_) (fun c2 => ?_)
  · rw [if_pos c2] at h
    refine W.widen (k := 2) (n := 12) (by decide) (by decide) ?_
    exact sBX9_hear_15 C hr ht hst  hd (lv_sub hl [0, 1, 2, 3] rfl) h
  · rw [if_neg c2] at h
    refine lv_aload_n hx hb dX9_hear_10 rfl (lv_at hl 0 rfl) ?_
    refine lv_iload_n hx hb dX9_hear_11 rfl (lv_at hl 3 rfl) ?_
    refine R_tVv C hd ht hst h (fun r0 hc => ccX9_needField l G hst  hc) kX9_129 rfl (by decide) (rfl : kd 0 = 9) hl.1 ⟨by decide, by decide⟩ rfl rfl (Nat.le_of_ble_eq_true rfl) dX9_hear_12 ⟨by decide, by decide⟩ (by decide) (by decide) (fun x3 S H locs hd h => ?_)
    exact sBX9_hear_15 C hr ht hst  hd (lv_sub hl [0, 1, 2, 3] rfl) h
set_option maxRecDepth 20000 in
theorem ccX9_hear (l : Launch) (G : Gt) (hst : l.stackTraces = false) {a1 : Int32} {a2 : Int32} {a3 : Int32} {S : St} {res : TR}  (h : fX9_hear a1 a2 a3 S = some res) : vx_Met l yX9_hear (wm yX9_hear cX9_hear 4 (some .int)) (rmL 7 2 12) (PcW G S [.ref (gR G 0), .int a1, .int a2, .int a3]) (QTI G res) (XT G res) 2 12 (Ab G) := by
  refine vx_ofW (cc := cX9_hear) (maxL := 4) (ret := (some .int)) (by decide) rfl ?_
  intro p e s m args below meth c s₁ B hml ht hv
  obtain ⟨rfl, hK, hP⟩ := hv
  have C : Cx p s m _ meth c cX9_hear 4 RX9 G := ⟨⟨B.exec, B.bytes, hml, findClass_of_methodNamed B.named, fun w hw => atoms_spec (ws := wm yX9_hear cX9_hear 4 (some .int)) B.pre w (List.mem_cons_of_mem _ hw)⟩, B.notSynchronized, hK⟩
  have hl := lv_entry ([.ref (gR G 0), .int a1, .int a2, .int a3]) (n := 4) (Nat.le_of_ble_eq_true rfl)
  rw [lg_entry_eq]
  generalize (lg_sl ([.ref (gR G 0), .int a1, .int a2, .int a3]) ++ List.replicate (4 - (lg_sl ([.ref (gR G 0), .int a1, .int a2, .int a3])).length) Slot.unset).toArray = ls at hl ⊢
  exact sfX9_hear C B.returns ht hst  ⟨hP, va_S.rf⟩ hl h
def fX9_otherwise (a1 : Int32) (S : St) : Option TR :=
  bt (fX9_needWhat a1 2 S) fun x1 S => (if a1 = 2 then gm S 0 3 8 fun q10 => bd (fX1_holdsAsItIs q10 36 S) fun x12 S => (if x12 = 0 then tri 0 S else tri 1 S) else gm S 0 3 8 fun q4 => bv (fX1_explore q4 36 S) fun S => (if a1 = 0 then tri (S 137 1) S else tri (S 137 2) S))
set_option maxHeartbeats 4000000 in
set_option maxRecDepth 20000 in
theorem sfX9_otherwise (C : Cx p s m args meth c cX9_otherwise 2 RX9 G) (hr : meth.sig.returnType = some .int) (ht : ∀ x ∈ c.exceptionTable.toList, False) (hst : l.stackTraces = false) {a1 : Int32} {S : St} {res : TR} {H : Heap} {locs : List Loc} {ls : Array Slot}  (hd : Dy G S s H locs) (hl : lv_has ls 2 [(0, .ref (gR G 0)), (1, .int a1)]) (h : fX9_otherwise a1 S = some res) : W p l e (rmL 9 1 6) s m args below meth c H locs 0 0 (vx_MQ below (QTI G res) (XT G res) args s 1 6 (Ab G)) (F0 m 0 ls []) := by
  unfold fX9_otherwise at h
  have hx := C.1.1
  have hb := C.1.2.1
  refine lv_aload_n hx hb dX9_otherwise_0 rfl (lv_at hl 0 rfl) ?_
  refine lv_iload_n hx hb dX9_otherwise_1 rfl (lv_at hl 1 rfl) ?_
  refine lv_iconst (v := 2) hx hb dX9_otherwise_2 (by decide) ?_
  refine R_tVv C hd ht hst h (fun r0 hc => ccX9_needWhat l G hst  hc) kX9_217 rfl (by decide) (rfl : kd 0 = 9) hl.1 ⟨by decide, by decide⟩ rfl rfl (Nat.le_of_ble_eq_true rfl) dX9_otherwise_3 ⟨by decide, by decide⟩ (by decide) (by decide) (fun x1 S H locs hd h => ?_)
  refine lv_iload_n hx hb dX9_otherwise_6 rfl (lv_at hl 1 rfl) ?_
  refine lv_iconst (v := 2) hx hb dX9_otherwise_7 (by decide) ?_
  refine lv_icmp_ne (tgt := 35) hx hb dX9_otherwise_8 (by decide) (fun c2 => ?_) (fun c2 => ?_)
  · rw [if_neg c2] at h
    refine lv_aload_n hx hb dX9_otherwise_35 rfl (lv_at hl 0 rfl) ?_
    refine gX9_56 C hd (rfl : kd 0 = 9) (q := 137) rfl dX9_otherwise_36 (fun y3 => ?_)
    refine lv_aload_n hx hb dX9_otherwise_39 rfl (lv_at hl 0 rfl) ?_
    refine gX9_16 C hd (rfl : kd 0 = 9) h dX9_otherwise_40 (fun q4 kq4 h => ?_)
    refine lv_aload_n hx hb dX9_otherwise_43 rfl (lv_at hl 0 rfl) ?_
    refine gX9_35 C hd (rfl : kd 0 = 9) (q := 36) rfl dX9_otherwise_44 (fun y5 => ?_)
    obtain ⟨S1, hc, h⟩ := bv_some h
    refine R_cVv C hd (ccX1_explore l G kq4 y5 hc) kX9_261 rfl (by decide) y3 hl.1 ⟨by decide, by decide⟩ rfl rfl (Nat.le_of_ble_eq_true rfl) dX9_otherwise_47 ⟨by decide, by decide⟩ (fun H locs hd => ?_)
    generalize S1 = S at h hd
    refine lv_iload_n hx hb dX9_otherwise_50 rfl (lv_at hl 1 rfl) ?_
    refine lv_if_ne (tgt := 64) hx hb dX9_otherwise_51 (by decide) (fun c6 => ?_) (fun c6 => ?_)
    · rw [if_neg c6] at h
      refine lv_aload_n hx hb dX9_otherwise_64 rfl (lv_at hl 0 rfl) ?_
      refine gX9_56 C hd (rfl : kd 0 = 9) (q := 137) rfl dX9_otherwise_65 (fun y7 => ?_)
      refine gX9_268 C hd y7 dX9_otherwise_68 ?_
      exact R_tiret C hr hd h (by decide) (by decide) dX9_otherwise_71
    · rw [if_pos c6] at h
      refine lv_aload_n hx hb dX9_otherwise_54 rfl (lv_at hl 0 rfl) ?_
      refine gX9_56 C hd (rfl : kd 0 = 9) (q := 137) rfl dX9_otherwise_55 (fun y8 => ?_)
      refine gX9_265 C hd y8 dX9_otherwise_58 ?_
      refine lv_goto (tgt := 71) hx hb dX9_otherwise_61 (by decide) ?_
      exact R_tiret C hr hd h (by decide) (by decide) dX9_otherwise_71
  · rw [if_pos c2] at h
    refine lv_aload_n hx hb dX9_otherwise_11 rfl (lv_at hl 0 rfl) ?_
    refine gX9_56 C hd (rfl : kd 0 = 9) (q := 137) rfl dX9_otherwise_12 (fun y9 => ?_)
    refine lv_aload_n hx hb dX9_otherwise_15 rfl (lv_at hl 0 rfl) ?_
    refine gX9_16 C hd (rfl : kd 0 = 9) h dX9_otherwise_16 (fun q10 kq10 h => ?_)
    refine lv_aload_n hx hb dX9_otherwise_19 rfl (lv_at hl 0 rfl) ?_
    refine gX9_35 C hd (rfl : kd 0 = 9) (q := 36) rfl dX9_otherwise_20 (fun y11 => ?_)
    obtain ⟨x12, S1, hc, h⟩ := bd_some h
    refine R_cVi C hd (ccX1_holdsAsItIs l G kq10 y11 hc) kX9_257 rfl (by decide) y9 hl.1 ⟨by decide, by decide⟩ rfl rfl (Nat.le_of_ble_eq_true rfl) dX9_otherwise_23 ⟨by decide, by decide⟩ (fun H locs hd => ?_)
    generalize S1 = S at h hd
    refine lv_if_eq (tgt := 33) hx hb dX9_otherwise_26 (by decide) (fun c13 => ?_) (fun c13 => ?_)
    · rw [if_pos c13] at h
      refine lv_iconst (v := 0) hx hb dX9_otherwise_33 (by decide) ?_
      exact R_tiret C hr hd h (by decide) (by decide) dX9_otherwise_34
    · rw [if_neg c13] at h
      refine lv_iconst (v := 1) hx hb dX9_otherwise_29 (by decide) ?_
      refine lv_goto (tgt := 34) hx hb dX9_otherwise_30 (by decide) ?_
      exact R_tiret C hr hd h (by decide) (by decide) dX9_otherwise_34
set_option maxRecDepth 20000 in
theorem ccX9_otherwise (l : Launch) (G : Gt) (hst : l.stackTraces = false) {a1 : Int32} {S : St} {res : TR}  (h : fX9_otherwise a1 S = some res) : vx_Met l yX9_otherwise (wm yX9_otherwise cX9_otherwise 2 (some .int)) (rmL 9 1 6) (PcW G S [.ref (gR G 0), .int a1]) (QTI G res) (XT G res) 1 6 (Ab G) := by
  refine vx_ofW (cc := cX9_otherwise) (maxL := 2) (ret := (some .int)) (by decide) rfl ?_
  intro p e s m args below meth c s₁ B hml ht hv
  obtain ⟨rfl, hK, hP⟩ := hv
  have C : Cx p s m _ meth c cX9_otherwise 2 RX9 G := ⟨⟨B.exec, B.bytes, hml, findClass_of_methodNamed B.named, fun w hw => atoms_spec (ws := wm yX9_otherwise cX9_otherwise 2 (some .int)) B.pre w (List.mem_cons_of_mem _ hw)⟩, B.notSynchronized, hK⟩
  have hl := lv_entry ([.ref (gR G 0), .int a1]) (n := 2) (Nat.le_of_ble_eq_true rfl)
  rw [lg_entry_eq]
  generalize (lg_sl ([.ref (gR G 0), .int a1]) ++ List.replicate (2 - (lg_sl ([.ref (gR G 0), .int a1])).length) Slot.unset).toArray = ls at hl ⊢
  exact sfX9_otherwise C B.returns ht hst  ⟨hP, va_S.rf⟩ hl h
def fX9_listen (a1 : Int32) (S : St) : Option TR :=
  bt (fX9_needWhat a1 1 S) fun x1 S => gm S 0 3 8 fun q3 => bv (fX1_explore q3 36 S) fun S => bd (fX1_mostUnlike  S) fun x6 S => (if a1 = 0 then tri x6 S else (if x6 = (-1) then tri 0 S else rd S 138 x6 fun x11 => bd (fJ6_bitCount_0f7a4 x11 S) fun x12 S => tri x12 S))
set_option maxHeartbeats 4000000 in
set_option maxRecDepth 20000 in
theorem sfX9_listen (C : Cx p s m args meth c cX9_listen 3 RX9 G) (hr : meth.sig.returnType = some .int) (ht : ∀ x ∈ c.exceptionTable.toList, False) (hst : l.stackTraces = false) {a1 : Int32} {S : St} {res : TR} {H : Heap} {locs : List Loc} {ls : Array Slot}  (hd : Dy G S s H locs) (hl : lv_has ls 3 [(0, .ref (gR G 0)), (1, .int a1)]) (h : fX9_listen a1 S = some res) : W p l e (rmL 9 1 6) s m args below meth c H locs 0 0 (vx_MQ below (QTI G res) (XT G res) args s 1 6 (Ab G)) (F0 m 0 ls []) := by
  unfold fX9_listen at h
  have hx := C.1.1
  have hb := C.1.2.1
  refine lv_aload_n hx hb dX9_listen_0 rfl (lv_at hl 0 rfl) ?_
  refine lv_iload_n hx hb dX9_listen_1 rfl (lv_at hl 1 rfl) ?_
  refine lv_iconst (v := 1) hx hb dX9_listen_2 (by decide) ?_
  refine R_tVv C hd ht hst h (fun r0 hc => ccX9_needWhat l G hst  hc) kX9_217 rfl (by decide) (rfl : kd 0 = 9) hl.1 ⟨by decide, by decide⟩ rfl rfl (Nat.le_of_ble_eq_true rfl) dX9_listen_3 ⟨by decide, by decide⟩ (by decide) (by decide) (fun x1 S H locs hd h => ?_)
  refine lv_aload_n hx hb dX9_listen_6 rfl (lv_at hl 0 rfl) ?_
  refine gX9_56 C hd (rfl : kd 0 = 9) (q := 137) rfl dX9_listen_7 (fun y2 => ?_)
  refine lv_aload_n hx hb dX9_listen_10 rfl (lv_at hl 0 rfl) ?_
  refine gX9_16 C hd (rfl : kd 0 = 9) h dX9_listen_11 (fun q3 kq3 h => ?_)
  refine lv_aload_n hx hb dX9_listen_14 rfl (lv_at hl 0 rfl) ?_
  refine gX9_35 C hd (rfl : kd 0 = 9) (q := 36) rfl dX9_listen_15 (fun y4 => ?_)
  obtain ⟨S1, hc, h⟩ := bv_some h
  refine R_cVv C hd (ccX1_explore l G kq3 y4 hc) kX9_261 rfl (by decide) y2 hl.1 ⟨by decide, by decide⟩ rfl rfl (Nat.le_of_ble_eq_true rfl) dX9_listen_18 ⟨by decide, by decide⟩ (fun H locs hd => ?_)
  generalize S1 = S at h hd
  refine lv_aload_n hx hb dX9_listen_21 rfl (lv_at hl 0 rfl) ?_
  refine gX9_56 C hd (rfl : kd 0 = 9) (q := 137) rfl dX9_listen_22 (fun y5 => ?_)
  obtain ⟨x6, S1, hc, h⟩ := bd_some h
  refine R_cVi C hd (ccX1_mostUnlike l G  hc) kX9_271 rfl (by decide) y5 hl.1 ⟨by decide, by decide⟩ rfl rfl (Nat.le_of_ble_eq_true rfl) dX9_listen_25 ⟨by decide, by decide⟩ (fun H locs hd => ?_)
  generalize S1 = S at h hd
  refine lv_istore_n (lv' := [(2, .int x6), (0, .ref (gR G 0)), (1, .int a1)]) hx hb dX9_listen_28 rfl hl (by decide) rfl (fun ls hl => ?_)
  refine lv_iload_n hx hb dX9_listen_29 rfl (lv_at hl 2 rfl) ?_
  refine lv_if_ne (tgt := 35) hx hb dX9_listen_30 (by decide) (fun c7 => ?_) (fun c7 => ?_)
  · rw [if_neg c7] at h
    refine lv_iload_n hx hb dX9_listen_35 rfl (lv_at hl 0 rfl) ?_
    refine lv_iconst (v := -1) hx hb dX9_listen_36 (by decide) ?_
    refine lv_icmp_ne (tgt := 44) hx hb dX9_listen_37 (by decide) (fun c8 => ?_) (fun c8 => ?_)
    · rw [if_neg c8] at h
      refine lv_aload_n hx hb dX9_listen_44 rfl (lv_at hl 1 rfl) ?_
      refine gX9_56 C hd (rfl : kd 0 = 9) (q := 137) rfl dX9_listen_45 (fun y9 => ?_)
      refine gX9_275 C hd y9 (q := 138) rfl dX9_listen_48 (fun y10 => ?_)
      refine lv_iload_n hx hb dX9_listen_51 rfl (lv_at hl 0 rfl) ?_
      refine R_iald C hd y10 h dX9_listen_52 (fun x11 h => ?_)
      obtain ⟨x12, S1, hc, h⟩ := bd_some h
      refine R_cSi C hd (ccJ6_bitCount_0f7a4 l G  hc) kX9_278  hl.1 ⟨by decide, by decide⟩ rfl rfl (Nat.le_of_ble_eq_true rfl) dX9_listen_53 ⟨by decide, by decide⟩ (fun H locs hd => ?_)
      generalize S1 = S at h hd
      exact R_tiret C hr hd h (by decide) (by decide) dX9_listen_56
    · rw [if_pos c8] at h
      refine lv_iconst (v := 0) hx hb dX9_listen_40 (by decide) ?_
      refine lv_goto (tgt := 56) hx hb dX9_listen_41 (by decide) ?_
      exact R_tiret C hr hd h (by decide) (by decide) dX9_listen_56
  · rw [if_pos c7] at h
    refine lv_iload_n hx hb dX9_listen_33 rfl (lv_at hl 0 rfl) ?_
    exact R_tiret C hr hd h (by decide) (by decide) dX9_listen_34
set_option maxRecDepth 20000 in
theorem ccX9_listen (l : Launch) (G : Gt) (hst : l.stackTraces = false) {a1 : Int32} {S : St} {res : TR}  (h : fX9_listen a1 S = some res) : vx_Met l yX9_listen (wm yX9_listen cX9_listen 3 (some .int)) (rmL 9 1 6) (PcW G S [.ref (gR G 0), .int a1]) (QTI G res) (XT G res) 1 6 (Ab G) := by
  refine vx_ofW (cc := cX9_listen) (maxL := 3) (ret := (some .int)) (by decide) rfl ?_
  intro p e s m args below meth c s₁ B hml ht hv
  obtain ⟨rfl, hK, hP⟩ := hv
  have C : Cx p s m _ meth c cX9_listen 3 RX9 G := ⟨⟨B.exec, B.bytes, hml, findClass_of_methodNamed B.named, fun w hw => atoms_spec (ws := wm yX9_listen cX9_listen 3 (some .int)) B.pre w (List.mem_cons_of_mem _ hw)⟩, B.notSynchronized, hK⟩
  have hl := lv_entry ([.ref (gR G 0), .int a1]) (n := 3) (Nat.le_of_ble_eq_true rfl)
  rw [lg_entry_eq]
  generalize (lg_sl ([.ref (gR G 0), .int a1]) ++ List.replicate (3 - (lg_sl ([.ref (gR G 0), .int a1])).length) Slot.unset).toArray = ls at hl ⊢
  exact sfX9_listen C B.returns ht hst  ⟨hP, va_S.rf⟩ hl h
def fX9_forget  (S : St) : Option St :=
  pf S 36 4 0 fun S => some S
set_option maxHeartbeats 4000000 in
set_option maxRecDepth 20000 in
theorem sfX9_forget (C : Cx p s m args meth c cX9_forget 1 RX9 G) (hr : meth.sig.returnType = none)  {S : St} {res : St} {H : Heap} {locs : List Loc} {ls : Array Slot}  (hd : Dy G S s H locs) (hl : lv_has ls 1 [(0, .ref (gR G 0))]) (h : fX9_forget  S = some res) : W p l e (rmL 3 0 0) s m args below meth c H locs 0 0 (MQ below (QV G res) args s 0 0 (Ab G)) (F0 m 0 ls []) := by
  unfold fX9_forget at h
  have hx := C.1.1
  have hb := C.1.2.1
  refine lv_aload_n hx hb dX9_forget_0 rfl (lv_at hl 0 rfl) ?_
  refine gX9_35 C hd (rfl : kd 0 = 9) (q := 36) rfl dX9_forget_1 (fun y1 => ?_)
  refine lv_iconst (v := 0) hx hb dX9_forget_4 (by decide) ?_
  refine pX9_118 C hd y1 h dX9_forget_5 (fun S H locs hd h => ?_)
  exact R_vret C hr hd h dX9_forget_8
set_option maxRecDepth 20000 in
theorem ccX9_forget (l : Launch) (G : Gt)  {S : St} {res : St}  (h : fX9_forget  S = some res) : Met l yX9_forget (wm yX9_forget cX9_forget 1 (none)) (rmL 3 0 0) (PcW G S [.ref (gR G 0)]) (QV G res) 0 0 (Ab G) := by
  refine Met.ofW (cc := cX9_forget) (maxL := 1) (ret := none) (by decide) rfl ?_
  intro p e s m args below meth c s₁ B hml hv
  obtain ⟨rfl, hK, hP⟩ := hv
  have C : Cx p s m _ meth c cX9_forget 1 RX9 G := ⟨⟨B.exec, B.bytes, hml, findClass_of_methodNamed B.named, fun w hw => atoms_spec (ws := wm yX9_forget cX9_forget 1 (none)) B.pre w (List.mem_cons_of_mem _ hw)⟩, B.notSynchronized, hK⟩
  have hl := lv_entry ([.ref (gR G 0)]) (n := 1) (Nat.le_of_ble_eq_true rfl)
  rw [lg_entry_eq]
  generalize (lg_sl ([.ref (gR G 0)]) ++ List.replicate (1 - (lg_sl ([.ref (gR G 0)])).length) Slot.unset).toArray = ls at hl ⊢
  exact sfX9_forget C B.returns  ⟨hP, va_S.rf⟩ hl h
def BX9_gain_34 (l1 : Int32) (l2 : Int32) (s0 : Int32) (S : St) : Option (Int32 × St) :=
  bd (fX0_wouldTrespass l1 l2 S) fun x2 S => (if x2 = 0 then ri s0 S else bd (fX0_fineOf l1 l2 0 S) fun x5 S => ri (s0 - x5) S)
set_option maxHeartbeats 4000000 in
set_option maxRecDepth 20000 in
theorem sBX9_gain_34 (C : Cx p s m args meth c cX9_gain 6 RX9 G) (hr : meth.sig.returnType = some .int) {l1 : Int32} {l2 : Int32} {s0 : Int32} {S : St} {res : (Int32 × St)} {H : Heap} {locs : List Loc} {ls : Array Slot}  (hd : Dy G S s H locs) (hl : lv_has ls 6 [(0, .ref (gR G 0)), (1, .int l1), (2, .int l2)]) (h : BX9_gain_34 l1 l2 s0 S = some res) : W p l e (rmL 5 0 0) s m args below meth c H locs 0 0 (MQ below (QI G res.1 res.2) args s 0 0 (Ab G)) (F0 m 34 ls [.int s0]) := by
  unfold BX9_gain_34 at h
  have hx := C.1.1
  have hb := C.1.2.1
  refine lv_istore (lv' := [(5, .int s0), (0, .ref (gR G 0)), (1, .int l1), (2, .int l2)]) hx hb dX9_gain_34 hl (by decide) rfl (fun ls hl => ?_)
  refine lv_aload_n hx hb dX9_gain_36 rfl (lv_at hl 1 rfl) ?_
  refine gX9_47 C hd (rfl : kd 0 = 9) (q := 130) rfl dX9_gain_37 (fun y1 => ?_)
  refine lv_iload_n hx hb dX9_gain_40 rfl (lv_at hl 2 rfl) ?_
  refine lv_iload_n hx hb dX9_gain_41 rfl (lv_at hl 3 rfl) ?_
  obtain ⟨x2, S1, hc, h⟩ := bd_some h
  refine R_cVi C hd (ccX0_wouldTrespass l G  hc) kX9_293 rfl (by decide) y1 hl.1 ⟨by decide, by decide⟩ rfl rfl (Nat.le_of_ble_eq_true rfl) dX9_gain_42 ⟨Nat.zero_le _, Nat.zero_le _⟩ (fun H locs hd => ?_)
  generalize S1 = S at h hd
  refine lv_if_eq (tgt := 64) hx hb dX9_gain_45 (by decide) (fun c3 => ?_) (fun c3 => ?_)
  · rw [if_pos c3] at h
    refine lv_iload hx hb dX9_gain_64 (lv_at hl 0 rfl) ?_
    exact R_iret C hr hd h dX9_gain_66
  · rw [if_neg c3] at h
    refine lv_iload hx hb dX9_gain_48 (lv_at hl 0 rfl) ?_
    refine lv_aload_n hx hb dX9_gain_50 rfl (lv_at hl 1 rfl) ?_
    refine gX9_47 C hd (rfl : kd 0 = 9) (q := 130) rfl dX9_gain_51 (fun y4 => ?_)
    refine lv_iload_n hx hb dX9_gain_54 rfl (lv_at hl 2 rfl) ?_
    refine lv_iload_n hx hb dX9_gain_55 rfl (lv_at hl 3 rfl) ?_
    refine lv_iconst (v := 0) hx hb dX9_gain_56 (by decide) ?_
    obtain ⟨x5, S1, hc, h⟩ := bd_some h
    refine R_cVi C hd (ccX0_fineOf l G  hc) kX9_296 rfl (by decide) y4 hl.1 ⟨by decide, by decide⟩ rfl rfl (Nat.le_of_ble_eq_true rfl) dX9_gain_57 ⟨Nat.zero_le _, Nat.zero_le _⟩ (fun H locs hd => ?_)
    generalize S1 = S at h hd
    refine lv_isub hx hb dX9_gain_60 ?_
    refine lv_goto (tgt := 66) hx hb dX9_gain_61 (by decide) ?_
    exact R_iret C hr hd h dX9_gain_66
def fX9_gain (a1 : Int32) (a2 : Int32) (a3 : Int32) (a4 : Int32) (S : St) : Option (Int32 × St) :=
  (if a3 = 0 then ri 0 S else (if a4 = 0 then gm S 0 3 8 fun q7 => rd S (sr q7 3) a2 fun x9 => (BX9_gain_34 a1 a2 x9 S) else gm S 0 3 8 fun q3 => rd S (sr q3 3) a2 fun x5 => dv x5 2 fun x6 => (BX9_gain_34 a1 a2 x6 S)))
set_option maxHeartbeats 4000000 in
set_option maxRecDepth 20000 in
theorem sfX9_gain (C : Cx p s m args meth c cX9_gain 6 RX9 G) (hr : meth.sig.returnType = some .int) {a1 : Int32} {a2 : Int32} {a3 : Int32} {a4 : Int32} {S : St} {res : (Int32 × St)} {H : Heap} {locs : List Loc} {ls : Array Slot}  (hd : Dy G S s H locs) (hl : lv_has ls 6 [(0, .ref (gR G 0)), (1, .int a1), (2, .int a2), (3, .int a3), (4, .int a4)]) (h : fX9_gain a1 a2 a3 a4 S = some res) : W p l e (rmL 5 0 0) s m args below meth c H locs 0 0 (MQ below (QI G res.1 res.2) args s 0 0 (Ab G)) (F0 m 0 ls []) := by
  unfold fX9_gain at h
  have hx := C.1.1
  have hb := C.1.2.1
  refine lv_iload_n hx hb dX9_gain_0 rfl (lv_at hl 3 rfl) ?_
  refine lv_if_ne (tgt := 6) hx hb dX9_gain_1 (by decide) (fun c1 => ?_) (fun c1 => ?_)
  · rw [if_neg c1] at h
    refine lv_iload hx hb dX9_gain_6 (lv_at hl 4 rfl) ?_
    refine lv_if_ne (tgt := 23) hx hb dX9_gain_8 (by decide) (fun c2 => ?_) (fun c2 => ?_)
    · rw [if_neg c2] at h
      refine lv_aload_n hx hb dX9_gain_23 rfl (lv_at hl 0 rfl) ?_
      refine gX9_16 C hd (rfl : kd 0 = 9) h dX9_gain_24 (fun q3 kq3 h => ?_)
      refine gX9_132 C hd kq3 (q := sr q3 3) rfl dX9_gain_27 (fun y4 => ?_)
      refine lv_iload_n hx hb dX9_gain_30 rfl (lv_at hl 2 rfl) ?_
      refine R_iald C hd y4 h dX9_gain_31 (fun x5 h => ?_)
      refine lv_iconst (v := 2) hx hb dX9_gain_32 (by decide) ?_
      refine R_div C h dX9_gain_33 (fun x6 h => ?_)
      exact sBX9_gain_34 C hr  hd (lv_sub hl [0, 1, 2] rfl) h
    · rw [if_pos c2] at h
      refine lv_aload_n hx hb dX9_gain_11 rfl (lv_at hl 0 rfl) ?_
      refine gX9_16 C hd (rfl : kd 0 = 9) h dX9_gain_12 (fun q7 kq7 h => ?_)
      refine gX9_132 C hd kq7 (q := sr q7 3) rfl dX9_gain_15 (fun y8 => ?_)
      refine lv_iload_n hx hb dX9_gain_18 rfl (lv_at hl 2 rfl) ?_
      refine R_iald C hd y8 h dX9_gain_19 (fun x9 h => ?_)
      refine lv_goto (tgt := 34) hx hb dX9_gain_20 (by decide) ?_
      exact sBX9_gain_34 C hr  hd (lv_sub hl [0, 1, 2] rfl) h
  · rw [if_pos c1] at h
    refine lv_iconst (v := 0) hx hb dX9_gain_4 (by decide) ?_
    exact R_iret C hr hd h dX9_gain_5
set_option maxRecDepth 20000 in
theorem ccX9_gain (l : Launch) (G : Gt) {a1 : Int32} {a2 : Int32} {a3 : Int32} {a4 : Int32} {S : St} {res : (Int32 × St)}  (h : fX9_gain a1 a2 a3 a4 S = some res) : Met l yX9_gain (wm yX9_gain cX9_gain 6 (some .int)) (rmL 5 0 0) (PcW G S [.ref (gR G 0), .int a1, .int a2, .int a3, .int a4]) (QI G res.1 res.2) 0 0 (Ab G) := by
  refine Met.ofW (cc := cX9_gain) (maxL := 6) (ret := (some .int)) (by decide) rfl ?_
  intro p e s m args below meth c s₁ B hml hv
  obtain ⟨rfl, hK, hP⟩ := hv
  have C : Cx p s m _ meth c cX9_gain 6 RX9 G := ⟨⟨B.exec, B.bytes, hml, findClass_of_methodNamed B.named, fun w hw => atoms_spec (ws := wm yX9_gain cX9_gain 6 (some .int)) B.pre w (List.mem_cons_of_mem _ hw)⟩, B.notSynchronized, hK⟩
  have hl := lv_entry ([.ref (gR G 0), .int a1, .int a2, .int a3, .int a4]) (n := 6) (Nat.le_of_ble_eq_true rfl)
  rw [lg_entry_eq]
  generalize (lg_sl ([.ref (gR G 0), .int a1, .int a2, .int a3, .int a4]) ++ List.replicate (6 - (lg_sl ([.ref (gR G 0), .int a1, .int a2, .int a3, .int a4])).length) Slot.unset).toArray = ls at hl ⊢
  exact sfX9_gain C B.returns  ⟨hP, va_S.rf⟩ hl h
def fX9_rests (a1 : Int32) (a2 : Int32) (a3 : Int32) (a4 : Int32) (a5 : Int32) (S : St) : Option (Int32 × St) :=
  bd (fX9_gain a1 a3 a4 a5 S) fun x1 S => bd (fX9_gain a1 a3 (1 - a4) a5 S) fun x2 S => (if x1 < x2 then rz 0 S else bd (fX9_gain a2 a3 a5 a4 S) fun x4 S => bd (fX9_gain a2 a3 (1 - a5) a4 S) fun x5 S => (if x4 < x5 then rz 0 S else rz 1 S))
set_option maxHeartbeats 4000000 in
set_option maxRecDepth 20000 in
theorem sfX9_rests (C : Cx p s m args meth c cX9_rests 6 RX9 G) (hr : meth.sig.returnType = some .boolean) {a1 : Int32} {a2 : Int32} {a3 : Int32} {a4 : Int32} {a5 : Int32} {S : St} {res : (Int32 × St)} {H : Heap} {locs : List Loc} {ls : Array Slot}  (hd : Dy G S s H locs) (hl : lv_has ls 6 [(0, .ref (gR G 0)), (1, .int a1), (2, .int a2), (3, .int a3), (4, .int a4), (5, .int a5)]) (h : fX9_rests a1 a2 a3 a4 a5 S = some res) : W p l e (rmL 6 0 0) s m args below meth c H locs 0 0 (MQ below (QI G res.1 res.2) args s 0 0 (Ab G)) (F0 m 0 ls []) := by
  unfold fX9_rests at h
  have hx := C.1.1
  have hb := C.1.2.1
  refine lv_aload_n hx hb dX9_rests_0 rfl (lv_at hl 0 rfl) ?_
  refine lv_iload_n hx hb dX9_rests_1 rfl (lv_at hl 1 rfl) ?_
  refine lv_iload_n hx hb dX9_rests_2 rfl (lv_at hl 3 rfl) ?_
  refine lv_iload hx hb dX9_rests_3 (lv_at hl 4 rfl) ?_
  refine lv_iload hx hb dX9_rests_5 (lv_at hl 5 rfl) ?_
  obtain ⟨x1, S1, hc, h⟩ := bd_some h
  refine R_cVi C hd (ccX9_gain l G  hc) kX9_289 rfl (by decide) (rfl : kd 0 = 9) hl.1 ⟨by decide, by decide⟩ rfl rfl (Nat.le_of_ble_eq_true rfl) dX9_rests_7 ⟨Nat.zero_le _, Nat.zero_le _⟩ (fun H locs hd => ?_)
  generalize S1 = S at h hd
  refine lv_aload_n hx hb dX9_rests_10 rfl (lv_at hl 0 rfl) ?_
  refine lv_iload_n hx hb dX9_rests_11 rfl (lv_at hl 1 rfl) ?_
  refine lv_iload_n hx hb dX9_rests_12 rfl (lv_at hl 3 rfl) ?_
  refine lv_iconst (v := 1) hx hb dX9_rests_13 (by decide) ?_
  refine lv_iload hx hb dX9_rests_14 (lv_at hl 4 rfl) ?_
  refine lv_isub hx hb dX9_rests_16 ?_
  refine lv_iload hx hb dX9_rests_17 (lv_at hl 5 rfl) ?_
  obtain ⟨x2, S1, hc, h⟩ := bd_some h
  refine R_cVi C hd (ccX9_gain l G  hc) kX9_289 rfl (by decide) (rfl : kd 0 = 9) hl.1 ⟨by decide, by decide⟩ rfl rfl (Nat.le_of_ble_eq_true rfl) dX9_rests_19 ⟨Nat.zero_le _, Nat.zero_le _⟩ (fun H locs hd => ?_)
  generalize S1 = S at h hd
  refine lv_icmp_lt (tgt := 54) hx hb dX9_rests_22 (by decide) (fun c3 => ?_) (fun c3 => ?_)
  · rw [if_pos c3] at h
    refine lv_iconst (v := 0) hx hb dX9_rests_54 (by decide) ?_
    exact R_zret C hr hd h dX9_rests_55
  · rw [if_neg c3] at h
    refine lv_aload_n hx hb dX9_rests_25 rfl (lv_at hl 0 rfl) ?_
    refine lv_iload_n hx hb dX9_rests_26 rfl (lv_at hl 2 rfl) ?_
    refine lv_iload_n hx hb dX9_rests_27 rfl (lv_at hl 3 rfl) ?_
    refine lv_iload hx hb dX9_rests_28 (lv_at hl 5 rfl) ?_
    refine lv_iload hx hb dX9_rests_30 (lv_at hl 4 rfl) ?_
    obtain ⟨x4, S1, hc, h⟩ := bd_some h
    refine R_cVi C hd (ccX9_gain l G  hc) kX9_289 rfl (by decide) (rfl : kd 0 = 9) hl.1 ⟨by decide, by decide⟩ rfl rfl (Nat.le_of_ble_eq_true rfl) dX9_rests_32 ⟨Nat.zero_le _, Nat.zero_le _⟩ (fun H locs hd => ?_)
    generalize S1 = S at h hd
    refine lv_aload_n hx hb dX9_rests_35 rfl (lv_at hl 0 rfl) ?_
    refine lv_iload_n hx hb dX9_rests_36 rfl (lv_at hl 2 rfl) ?_
    refine lv_iload_n hx hb dX9_rests_37 rfl (lv_at hl 3 rfl) ?_
    refine lv_iconst (v := 1) hx hb dX9_rests_38 (by decide) ?_
    refine lv_iload hx hb dX9_rests_39 (lv_at hl 5 rfl) ?_
    refine lv_isub hx hb dX9_rests_41 ?_
    refine lv_iload hx hb dX9_rests_42 (lv_at hl 4 rfl) ?_
    obtain ⟨x5, S1, hc, h⟩ := bd_some h
    refine R_cVi C hd (ccX9_gain l G  hc) kX9_289 rfl (by decide) (rfl : kd 0 = 9) hl.1 ⟨by decide, by decide⟩ rfl rfl (Nat.le_of_ble_eq_true rfl) dX9_rests_44 ⟨Nat.zero_le _, Nat.zero_le _⟩ (fun H locs hd => ?_)
    generalize S1 = S at h hd
    refine lv_icmp_lt (tgt := 54) hx hb dX9_rests_47 (by decide) (fun c6 => ?_) (fun c6 => ?_)
    · rw [if_pos c6] at h
      refine lv_iconst (v := 0) hx hb dX9_rests_54 (by decide) ?_
      exact R_zret C hr hd h dX9_rests_55
    · rw [if_neg c6] at h
      refine lv_iconst (v := 1) hx hb dX9_rests_50 (by decide) ?_
      refine lv_goto (tgt := 55) hx hb dX9_rests_51 (by decide) ?_
      exact R_zret C hr hd h dX9_rests_55
set_option maxRecDepth 20000 in
theorem ccX9_rests (l : Launch) (G : Gt) {a1 : Int32} {a2 : Int32} {a3 : Int32} {a4 : Int32} {a5 : Int32} {S : St} {res : (Int32 × St)}  (h : fX9_rests a1 a2 a3 a4 a5 S = some res) : Met l yX9_rests (wm yX9_rests cX9_rests 6 (some .boolean)) (rmL 6 0 0) (PcW G S [.ref (gR G 0), .int a1, .int a2, .int a3, .int a4, .int a5]) (QI G res.1 res.2) 0 0 (Ab G) := by
  refine Met.ofW (cc := cX9_rests) (maxL := 6) (ret := (some .boolean)) (by decide) rfl ?_
  intro p e s m args below meth c s₁ B hml hv
  obtain ⟨rfl, hK, hP⟩ := hv
  have C : Cx p s m _ meth c cX9_rests 6 RX9 G := ⟨⟨B.exec, B.bytes, hml, findClass_of_methodNamed B.named, fun w hw => atoms_spec (ws := wm yX9_rests cX9_rests 6 (some .boolean)) B.pre w (List.mem_cons_of_mem _ hw)⟩, B.notSynchronized, hK⟩
  have hl := lv_entry ([.ref (gR G 0), .int a1, .int a2, .int a3, .int a4, .int a5]) (n := 6) (Nat.le_of_ble_eq_true rfl)
  rw [lg_entry_eq]
  generalize (lg_sl ([.ref (gR G 0), .int a1, .int a2, .int a3, .int a4, .int a5]) ++ List.replicate (6 - (lg_sl ([.ref (gR G 0), .int a1, .int a2, .int a3, .int a4, .int a5])).length) Slot.unset).toArray = ls at hl ⊢
  exact sfX9_rests C B.returns  ⟨hP, va_S.rf⟩ hl h
def BX9_game_135 (r83 : Int32 → Int32 → Int32 → Int32 → Int32 → Int32 → Int32 → St → Option TR) (l1 : Int32) (l2 : Int32) (l3 : Int32) (l4 : Int32) (l5 : Int32) (l6 : Int32) (l7 : Int32) (S : St) : Option TR :=
  vl (l7 + 1) fun x1 => (r83 l1 l2 l3 l4 l5 l6 x1 S)
set_option maxHeartbeats 4000000 in
set_option maxRecDepth 20000 in
theorem sBX9_game_135 (C : Cx p s m args meth c cX9_game 8 RX9 G) (hr : meth.sig.returnType = some .int) (ht : ∀ x ∈ c.exceptionTable.toList, False) (hst : l.stackTraces = false) {r83 : Int32 → Int32 → Int32 → Int32 → Int32 → Int32 → Int32 → St → Option TR} (hr83 : ∀ (l1 : Int32) (l2 : Int32) (l3 : Int32) (l4 : Int32) (l5 : Int32) (l6 : Int32) (l7 : Int32) (S : St) (res : TR) (H : Heap) (locs : List Loc) (ls : Array Slot), Dy G S s H locs → lv_has ls 8 [(0, .ref (gR G 0)), (1, .int l1), (2, .int l2), (3, .int l3), (4, .int l4), (5, .int l5), (6, .int l6), (7, .int l7)] → r83 l1 l2 l3 l4 l5 l6 l7 S = some res → W p l e (rmL 7 5 30) s m args below meth c H locs 4 24 (vx_MQ below (QTI G res) (XT G res) args s 5 30 (Ab G)) (F0 m 83 ls [])) {l1 : Int32} {l2 : Int32} {l3 : Int32} {l4 : Int32} {l5 : Int32} {l6 : Int32} {l7 : Int32} {S : St} {res : TR} {H : Heap} {locs : List Loc} {ls : Array Slot}  (hd : Dy G S s H locs) (hl : lv_has ls 8 [(0, .ref (gR G 0)), (1, .int l1), (2, .int l2), (3, .int l3), (4, .int l4), (5, .int l5), (6, .int l6), (7, .int l7)]) (h : BX9_game_135 r83 l1 l2 l3 l4 l5 l6 l7 S = some res) : W p l e (rmL 7 5 30) s m args below meth c H locs 4 24 (vx_MQ below (QTI G res) (XT G res) args s 5 30 (Ab G)) (F0 m 135 ls []) := by
  unfold BX9_game_135 at h
  have hx := C.1.1
  have hb := C.1.2.1
  refine R_vi h (fun x1 ex1 h => ?_)
  refine lv_iinc (v := x1) (lv' := [(7, .int x1), (0, .ref (gR G 0)), (1, .int l1), (2, .int l2), (3, .int l3), (4, .int l4), (5, .int l5), (6, .int l6)]) hx hb dX9_game_135 hl (k := 7) rfl (by rw [ex1]; rfl) (by decide) rfl (fun ls hl => ?_)
  refine lv_goto (tgt := 83) hx hb dX9_game_138 (by decide) ?_
  exact hr83 l1 l2 l3 l4 l5 l6 x1 _ _ _ _ _  hd (lv_sub hl [1, 2, 3, 4, 5, 6, 7, 0] rfl) h
def BX9_game_133 (r83 : Int32 → Int32 → Int32 → Int32 → Int32 → Int32 → Int32 → St → Option TR) (l1 : Int32) (l2 : Int32) (l3 : Int32) (l4 : Int32) (l5 : Int32) (l7 : Int32) (s0 : Int32) (S : St) : Option TR :=
  (BX9_game_135 r83 l1 l2 l3 l4 l5 s0 l7 S)
set_option maxHeartbeats 4000000 in
set_option maxRecDepth 20000 in
theorem sBX9_game_133 (C : Cx p s m args meth c cX9_game 8 RX9 G) (hr : meth.sig.returnType = some .int) (ht : ∀ x ∈ c.exceptionTable.toList, False) (hst : l.stackTraces = false) {r83 : Int32 → Int32 → Int32 → Int32 → Int32 → Int32 → Int32 → St → Option TR} (hr83 : ∀ (l1 : Int32) (l2 : Int32) (l3 : Int32) (l4 : Int32) (l5 : Int32) (l6 : Int32) (l7 : Int32) (S : St) (res : TR) (H : Heap) (locs : List Loc) (ls : Array Slot), Dy G S s H locs → lv_has ls 8 [(0, .ref (gR G 0)), (1, .int l1), (2, .int l2), (3, .int l3), (4, .int l4), (5, .int l5), (6, .int l6), (7, .int l7)] → r83 l1 l2 l3 l4 l5 l6 l7 S = some res → W p l e (rmL 7 5 30) s m args below meth c H locs 4 24 (vx_MQ below (QTI G res) (XT G res) args s 5 30 (Ab G)) (F0 m 83 ls [])) {l1 : Int32} {l2 : Int32} {l3 : Int32} {l4 : Int32} {l5 : Int32} {l7 : Int32} {s0 : Int32} {S : St} {res : TR} {H : Heap} {locs : List Loc} {ls : Array Slot}  (hd : Dy G S s H locs) (hl : lv_has ls 8 [(0, .ref (gR G 0)), (1, .int l1), (2, .int l2), (3, .int l3), (4, .int l4), (5, .int l5), (7, .int l7)]) (h : BX9_game_133 r83 l1 l2 l3 l4 l5 l7 s0 S = some res) : W p l e (rmL 7 5 30) s m args below meth c H locs 4 24 (vx_MQ below (QTI G res) (XT G res) args s 5 30 (Ab G)) (F0 m 133 ls [.int s0]) := by
  unfold BX9_game_133 at h
  have hx := C.1.1
  have hb := C.1.2.1
  refine lv_istore (lv' := [(6, .int s0), (0, .ref (gR G 0)), (1, .int l1), (2, .int l2), (3, .int l3), (4, .int l4), (5, .int l5), (7, .int l7)]) hx hb dX9_game_133 hl (by decide) rfl (fun ls hl => ?_)
  exact sBX9_game_135 C hr ht hst hr83  hd (lv_sub hl [1, 2, 3, 4, 5, 6, 0, 7] rfl) h
def KX9_game_83 (r83 : Int32 → Int32 → Int32 → Int32 → Int32 → Int32 → Int32 → St → Option TR) (l1 : Int32) (l2 : Int32) (l3 : Int32) (l4 : Int32) (l5 : Int32) (l6 : Int32) (l7 : Int32) (S : St) : Option TR :=
  (if 4 ≤ l7 then (if l4 = 0 then tri l5 S else tri l6 S) else bd (fX9_rests l1 l2 l3 (l7 >>> ((1 : Int32) &&& 31)) (l7 &&& 1) S) fun x3 S => (if x3 = 0 then (BX9_game_135 r83 l1 l2 l3 l4 l5 l6 l7 S) else vl (l5 + 1) fun x5 => (if l6 = (-1) then (BX9_game_133 r83 l1 l2 l3 l4 x5 l7 (((l7 >>> ((1 : Int32) &&& 31)) * 10) + (l7 &&& 1)) S) else (BX9_game_133 r83 l1 l2 l3 l4 x5 l7 l6 S))))
set_option maxHeartbeats 4000000 in
set_option maxRecDepth 20000 in
theorem sKX9_game_83 (C : Cx p s m args meth c cX9_game 8 RX9 G) (hr : meth.sig.returnType = some .int) (ht : ∀ x ∈ c.exceptionTable.toList, False) (hst : l.stackTraces = false) {r83 : Int32 → Int32 → Int32 → Int32 → Int32 → Int32 → Int32 → St → Option TR} (hr83 : ∀ (l1 : Int32) (l2 : Int32) (l3 : Int32) (l4 : Int32) (l5 : Int32) (l6 : Int32) (l7 : Int32) (S : St) (res : TR) (H : Heap) (locs : List Loc) (ls : Array Slot), Dy G S s H locs → lv_has ls 8 [(0, .ref (gR G 0)), (1, .int l1), (2, .int l2), (3, .int l3), (4, .int l4), (5, .int l5), (6, .int l6), (7, .int l7)] → r83 l1 l2 l3 l4 l5 l6 l7 S = some res → W p l e (rmL 7 5 30) s m args below meth c H locs 4 24 (vx_MQ below (QTI G res) (XT G res) args s 5 30 (Ab G)) (F0 m 83 ls [])) {l1 : Int32} {l2 : Int32} {l3 : Int32} {l4 : Int32} {l5 : Int32} {l6 : Int32} {l7 : Int32} {S : St} {res : TR} {H : Heap} {locs : List Loc} {ls : Array Slot}  (hd : Dy G S s H locs) (hl : lv_has ls 8 [(0, .ref (gR G 0)), (1, .int l1), (2, .int l2), (3, .int l3), (4, .int l4), (5, .int l5), (6, .int l6), (7, .int l7)]) (h : KX9_game_83 r83 l1 l2 l3 l4 l5 l6 l7 S = some res) : W p l e (rmL 7 5 30) s m args below meth c H locs 4 24 (vx_MQ below (QTI G res) (XT G res) args s 5 30 (Ab G)) (F0 m 83 ls []) := by
  unfold KX9_game_83 at h
  have hx := C.1.1
  have hb := C.1.2.1
  refine lv_iload hx hb dX9_game_83 (lv_at hl 7 rfl) ?_
  refine lv_iconst (v := 4) hx hb dX9_game_85 (by decide) ?_
  refine lv_icmp_ge (tgt := 141) hx hb dX9_game_86 (by decide) (fun c1 => ?_) (fun c1 => ?_)
  · rw [if_pos c1] at h
    refine lv_iload hx hb dX9_game_141 (lv_at hl 4 rfl) ?_
    refine lv_if_ne (tgt := 151) hx hb dX9_game_143 (by decide) (fun c2 => ?_) (fun c2 => ?_)
    · rw [if_neg c2] at h
      refine lv_iload hx hb dX9_game_151 (lv_at hl 6 rfl) ?_
      exact R_tiret C hr hd h (by decide) (by decide) dX9_game_153
    · rw [if_pos c2] at h
      refine lv_iload hx hb dX9_game_146 (lv_at hl 5 rfl) ?_
      refine lv_goto (tgt := 153) hx hb dX9_game_148 (by decide) ?_
      exact R_tiret C hr hd h (by decide) (by decide) dX9_game_153
  · rw [if_neg c1] at h
    refine lv_aload_n hx hb dX9_game_89 rfl (lv_at hl 0 rfl) ?_
    refine lv_iload_n hx hb dX9_game_90 rfl (lv_at hl 1 rfl) ?_
    refine lv_iload_n hx hb dX9_game_91 rfl (lv_at hl 2 rfl) ?_
    refine lv_iload_n hx hb dX9_game_92 rfl (lv_at hl 3 rfl) ?_
    refine lv_iload hx hb dX9_game_93 (lv_at hl 7 rfl) ?_
    refine lv_iconst (v := 1) hx hb dX9_game_95 (by decide) ?_
    refine lv_ishr hx hb dX9_game_96 ?_
    refine lv_iload hx hb dX9_game_97 (lv_at hl 7 rfl) ?_
    refine lv_iconst (v := 1) hx hb dX9_game_99 (by decide) ?_
    refine lv_iand hx hb dX9_game_100 ?_
    obtain ⟨x3, S1, hc, h⟩ := bd_some h
    refine R_cVi C hd (ccX9_rests l G  hc) kX9_285 rfl (by decide) (rfl : kd 0 = 9) hl.1 ⟨by decide, by decide⟩ rfl rfl (Nat.le_of_ble_eq_true rfl) dX9_game_101 ⟨by decide, by decide⟩ (fun H locs hd => ?_)
    generalize S1 = S at h hd
    refine lv_if_eq (tgt := 135) hx hb dX9_game_104 (by decide) (fun c4 => ?_) (fun c4 => ?_)
    · rw [if_pos c4] at h
      exact sBX9_game_135 C hr ht hst hr83  hd (lv_sub hl [0, 1, 2, 3, 4, 5, 6, 7] rfl) h
    · rw [if_neg c4] at h
      refine R_vi h (fun x5 ex5 h => ?_)
      refine lv_iinc (v := x5) (lv' := [(5, .int x5), (0, .ref (gR G 0)), (1, .int l1), (2, .int l2), (3, .int l3), (4, .int l4), (6, .int l6), (7, .int l7)]) hx hb dX9_game_107 hl (k := 5) rfl (by rw [ex5]; rfl) (by decide) rfl (fun ls hl => ?_)
      refine lv_iload hx hb dX9_game_110 (lv_at hl 6 rfl) ?_
      refine lv_iconst (v := -1) hx hb dX9_game_112 (by decide) ?_
      refine lv_icmp_ne (tgt := 131) hx hb dX9_game_113 (by decide) (fun c6 => ?_) (fun c6 => ?_)
      · rw [if_neg c6] at h
        refine lv_iload hx hb dX9_game_131 (lv_at hl 6 rfl) ?_
        exact sBX9_game_133 C hr ht hst hr83  hd (lv_sub hl [1, 2, 3, 4, 5, 0, 7] rfl) h
      · rw [if_pos c6] at h
        refine lv_iload hx hb dX9_game_116 (lv_at hl 7 rfl) ?_
        refine lv_iconst (v := 1) hx hb dX9_game_118 (by decide) ?_
        refine lv_ishr hx hb dX9_game_119 ?_
        refine lv_bipush (v := 10) hx hb dX9_game_120 (by decide) ?_
        refine lv_imul hx hb dX9_game_122 ?_
        refine lv_iload hx hb dX9_game_123 (lv_at hl 7 rfl) ?_
        refine lv_iconst (v := 1) hx hb dX9_game_125 (by decide) ?_
        refine lv_iand hx hb dX9_game_126 ?_
        refine lv_iadd hx hb dX9_game_127 ?_
        refine lv_goto (tgt := 133) hx hb dX9_game_128 (by decide) ?_
        exact sBX9_game_133 C hr ht hst hr83  hd (lv_sub hl [1, 2, 3, 4, 5, 0, 7] rfl) h
def LX9_game_83 : Nat → Int32 → Int32 → Int32 → Int32 → Int32 → Int32 → Int32 → St → Option TR
  | 0 => fun _ _ _ _ _ _ _ _ => none
  | n + 1 => fun l1 l2 l3 l4 l5 l6 l7 S => KX9_game_83 (LX9_game_83 n) l1 l2 l3 l4 l5 l6 l7 S
theorem sLX9_game_83 (C : Cx p s m args meth c cX9_game 8 RX9 G) (hr : meth.sig.returnType = some .int) (ht : ∀ x ∈ c.exceptionTable.toList, False) (hst : l.stackTraces = false) : ∀ (n : Nat) (l1 : Int32) (l2 : Int32) (l3 : Int32) (l4 : Int32) (l5 : Int32) (l6 : Int32) (l7 : Int32) (S : St) (res : TR) (H : Heap) (locs : List Loc) (ls : Array Slot), Dy G S s H locs → lv_has ls 8 [(0, .ref (gR G 0)), (1, .int l1), (2, .int l2), (3, .int l3), (4, .int l4), (5, .int l5), (6, .int l6), (7, .int l7)] → LX9_game_83 n l1 l2 l3 l4 l5 l6 l7 S = some res → W p l e (rmL 7 5 30) s m args below meth c H locs 4 24 (vx_MQ below (QTI G res) (XT G res) args s 5 30 (Ab G)) (F0 m 83 ls []) := by
  intro n
  induction n with
  | zero => intro l1 l2 l3 l4 l5 l6 l7 S res H locs ls  hd hl h; cases h
  | succ n ih =>
    intro l1 l2 l3 l4 l5 l6 l7 S res H locs ls  hd hl h
    exact sKX9_game_83 C hr ht hst ih  hd hl h
def fX9_game (a1 : Int32) (a2 : Int32) (a3 : Int32) (a4 : Int32) (S : St) : Option TR :=
  bt (fX9_needSinger a1 S) fun x1 S => bt (fX9_needSinger a2 S) fun x2 S => bt (fX9_needField a3 S) fun x3 S => bt (fX9_needWhat a4 1 S) fun x4 S => gm S 0 3 8 fun q6 => bv (fX0_begin q6 37 S) fun S => (if a1 = a2 then trx 2 S else bd (fX0_know (((1 : Int32) <<< (a1 &&& 31)) ||| ((1 : Int32) <<< (a2 &&& 31))) a3 S) fun x11 S => (if x11 = 0 then trx 2 S else (LX9_game_83 FU a1 a2 a3 a4 0 ((-1)) 0 S)))
set_option maxHeartbeats 4000000 in
set_option maxRecDepth 20000 in
theorem sfX9_game (C : Cx p s m args meth c cX9_game 8 RX9 G) (hr : meth.sig.returnType = some .int) (ht : ∀ x ∈ c.exceptionTable.toList, False) (hst : l.stackTraces = false) {a1 : Int32} {a2 : Int32} {a3 : Int32} {a4 : Int32} {S : St} {res : TR} {H : Heap} {locs : List Loc} {ls : Array Slot}  (hd : Dy G S s H locs) (hl : lv_has ls 8 [(0, .ref (gR G 0)), (1, .int a1), (2, .int a2), (3, .int a3), (4, .int a4)]) (h : fX9_game a1 a2 a3 a4 S = some res) : W p l e (rmL 7 5 30) s m args below meth c H locs 0 0 (vx_MQ below (QTI G res) (XT G res) args s 5 30 (Ab G)) (F0 m 0 ls []) := by
  unfold fX9_game at h
  have hx := C.1.1
  have hb := C.1.2.1
  refine lv_aload_n hx hb dX9_game_0 rfl (lv_at hl 0 rfl) ?_
  refine lv_iload_n hx hb dX9_game_1 rfl (lv_at hl 1 rfl) ?_
  refine R_tVv C hd ht hst h (fun r0 hc => ccX9_needSinger l G hst  hc) kX9_160 rfl (by decide) (rfl : kd 0 = 9) hl.1 ⟨by decide, by decide⟩ rfl rfl (Nat.le_of_ble_eq_true rfl) dX9_game_2 ⟨by decide, by decide⟩ (by decide) (by decide) (fun x1 S H locs hd h => ?_)
  refine lv_aload_n hx hb dX9_game_5 rfl (lv_at hl 0 rfl) ?_
  refine lv_iload_n hx hb dX9_game_6 rfl (lv_at hl 2 rfl) ?_
  refine R_tVv C hd ht hst h (fun r0 hc => ccX9_needSinger l G hst  hc) kX9_160 rfl (by decide) (rfl : kd 0 = 9) hl.1 ⟨by decide, by decide⟩ rfl rfl (Nat.le_of_ble_eq_true rfl) dX9_game_7 ⟨by decide, by decide⟩ (by decide) (by decide) (fun x2 S H locs hd h => ?_)
  refine lv_aload_n hx hb dX9_game_10 rfl (lv_at hl 0 rfl) ?_
  refine lv_iload_n hx hb dX9_game_11 rfl (lv_at hl 3 rfl) ?_
  refine R_tVv C hd ht hst h (fun r0 hc => ccX9_needField l G hst  hc) kX9_129 rfl (by decide) (rfl : kd 0 = 9) hl.1 ⟨by decide, by decide⟩ rfl rfl (Nat.le_of_ble_eq_true rfl) dX9_game_12 ⟨by decide, by decide⟩ (by decide) (by decide) (fun x3 S H locs hd h => ?_)
  refine lv_aload_n hx hb dX9_game_15 rfl (lv_at hl 0 rfl) ?_
  refine lv_iload hx hb dX9_game_16 (lv_at hl 4 rfl) ?_
  refine lv_iconst (v := 1) hx hb dX9_game_18 (by decide) ?_
  refine R_tVv C hd ht hst h (fun r0 hc => ccX9_needWhat l G hst  hc) kX9_217 rfl (by decide) (rfl : kd 0 = 9) hl.1 ⟨by decide, by decide⟩ rfl rfl (Nat.le_of_ble_eq_true rfl) dX9_game_19 ⟨by decide, by decide⟩ (by decide) (by decide) (fun x4 S H locs hd h => ?_)
  refine lv_aload_n hx hb dX9_game_22 rfl (lv_at hl 0 rfl) ?_
  refine gX9_47 C hd (rfl : kd 0 = 9) (q := 130) rfl dX9_game_23 (fun y5 => ?_)
  refine lv_aload_n hx hb dX9_game_26 rfl (lv_at hl 0 rfl) ?_
  refine gX9_16 C hd (rfl : kd 0 = 9) h dX9_game_27 (fun q6 kq6 h => ?_)
  refine lv_aload_n hx hb dX9_game_30 rfl (lv_at hl 0 rfl) ?_
  refine gX9_35 C hd (rfl : kd 0 = 9) (q := 36) rfl dX9_game_31 (fun y7 => ?_)
  refine gX9_111 C hd y7 (q := 37) rfl dX9_game_34 (fun y8 => ?_)
  obtain ⟨S1, hc, h⟩ := bv_some h
  refine R_cVv C hd (ccX0_begin l G kq6 y8 hc) kX9_166 rfl (by decide) y5 hl.1 ⟨by decide, by decide⟩ rfl rfl (Nat.le_of_ble_eq_true rfl) dX9_game_37 ⟨by decide, by decide⟩ (fun H locs hd => ?_)
  generalize S1 = S at h hd
  refine lv_iload_n hx hb dX9_game_40 rfl (lv_at hl 1 rfl) ?_
  refine lv_iload_n hx hb dX9_game_41 rfl (lv_at hl 2 rfl) ?_
  refine lv_icmp_eq (tgt := 63) hx hb dX9_game_42 (by decide) (fun c9 => ?_) (fun c9 => ?_)
  · rw [if_pos c9] at h
    exact R_throwW C hd h ht hst hl.1 ktX9_2_82 (List.mem_of_getElem? (i := 30) rfl) (Nat.le_of_ble_eq_true rfl) (Nat.le_of_ble_eq_true rfl) (Nat.le_of_ble_eq_true rfl) (Nat.le_of_ble_eq_true rfl) (Nat.le_of_ble_eq_true rfl) (Nat.le_of_ble_eq_true rfl) dX9_game_63 dX9_game_66 dX9_game_67 dX9_game_70 dX9_game_73
  · rw [if_neg c9] at h
    refine lv_aload_n hx hb dX9_game_45 rfl (lv_at hl 0 rfl) ?_
    refine gX9_47 C hd (rfl : kd 0 = 9) (q := 130) rfl dX9_game_46 (fun y10 => ?_)
    refine lv_iconst (v := 1) hx hb dX9_game_49 (by decide) ?_
    refine lv_iload_n hx hb dX9_game_50 rfl (lv_at hl 1 rfl) ?_
    refine lv_ishl hx hb dX9_game_51 ?_
    refine lv_iconst (v := 1) hx hb dX9_game_52 (by decide) ?_
    refine lv_iload_n hx hb dX9_game_53 rfl (lv_at hl 2 rfl) ?_
    refine lv_ishl hx hb dX9_game_54 ?_
    refine lv_ior hx hb dX9_game_55 ?_
    refine lv_iload_n hx hb dX9_game_56 rfl (lv_at hl 3 rfl) ?_
    obtain ⟨x11, S1, hc, h⟩ := bd_some h
    refine R_cVi C hd (ccX0_know l G  hc) kX9_213 rfl (by decide) y10 hl.1 ⟨by decide, by decide⟩ rfl rfl (Nat.le_of_ble_eq_true rfl) dX9_game_57 ⟨by decide, by decide⟩ (fun H locs hd => ?_)
    generalize S1 = S at h hd
    refine lv_if_ne (tgt := 74) hx hb dX9_game_60 (by decide) (fun c12 => ?_) (fun c12 => ?_)
    · rw [if_neg c12] at h
      refine lv_iconst (v := 0) hx hb dX9_game_74 (by decide) ?_
      refine lv_istore (lv' := [(5, .int 0), (0, .ref (gR G 0)), (1, .int a1), (2, .int a2), (3, .int a3), (4, .int a4)]) hx hb dX9_game_75 hl (by decide) rfl (fun ls hl => ?_)
      refine lv_iconst (v := -1) hx hb dX9_game_77 (by decide) ?_
      refine lv_istore (lv' := [(6, .int ((-1))), (5, .int 0), (0, .ref (gR G 0)), (1, .int a1), (2, .int a2), (3, .int a3), (4, .int a4)]) hx hb dX9_game_78 hl (by decide) rfl (fun ls hl => ?_)
      refine lv_iconst (v := 0) hx hb dX9_game_80 (by decide) ?_
      refine lv_istore (lv' := [(7, .int 0), (6, .int ((-1))), (5, .int 0), (0, .ref (gR G 0)), (1, .int a1), (2, .int a2), (3, .int a3), (4, .int a4)]) hx hb dX9_game_81 hl (by decide) rfl (fun ls hl => ?_)
      exact sLX9_game_83 C hr ht hst _ a1 a2 a3 a4 0 ((-1)) 0 _ _ _ _ _  hd (lv_sub hl [3, 4, 5, 6, 7, 2, 1, 0] rfl) h
    · rw [if_pos c12] at h
      exact R_throwW C hd h ht hst hl.1 ktX9_2_82 (List.mem_of_getElem? (i := 30) rfl) (Nat.le_of_ble_eq_true rfl) (Nat.le_of_ble_eq_true rfl) (Nat.le_of_ble_eq_true rfl) (Nat.le_of_ble_eq_true rfl) (Nat.le_of_ble_eq_true rfl) (Nat.le_of_ble_eq_true rfl) dX9_game_63 dX9_game_66 dX9_game_67 dX9_game_70 dX9_game_73
set_option maxRecDepth 20000 in
theorem ccX9_game (l : Launch) (G : Gt) (hst : l.stackTraces = false) {a1 : Int32} {a2 : Int32} {a3 : Int32} {a4 : Int32} {S : St} {res : TR}  (h : fX9_game a1 a2 a3 a4 S = some res) : vx_Met l yX9_game (wm yX9_game cX9_game 8 (some .int)) (rmL 7 5 30) (PcW G S [.ref (gR G 0), .int a1, .int a2, .int a3, .int a4]) (QTI G res) (XT G res) 5 30 (Ab G) := by
  refine vx_ofW (cc := cX9_game) (maxL := 8) (ret := (some .int)) (by decide) rfl ?_
  intro p e s m args below meth c s₁ B hml ht hv
  obtain ⟨rfl, hK, hP⟩ := hv
  have C : Cx p s m _ meth c cX9_game 8 RX9 G := ⟨⟨B.exec, B.bytes, hml, findClass_of_methodNamed B.named, fun w hw => atoms_spec (ws := wm yX9_game cX9_game 8 (some .int)) B.pre w (List.mem_cons_of_mem _ hw)⟩, B.notSynchronized, hK⟩
  have hl := lv_entry ([.ref (gR G 0), .int a1, .int a2, .int a3, .int a4]) (n := 8) (Nat.le_of_ble_eq_true rfl)
  rw [lg_entry_eq]
  generalize (lg_sl ([.ref (gR G 0), .int a1, .int a2, .int a3, .int a4]) ++ List.replicate (8 - (lg_sl ([.ref (gR G 0), .int a1, .int a2, .int a3, .int a4])).length) Slot.unset).toArray = ls at hl ⊢
  exact sfX9_game C B.returns ht hst  ⟨hP, va_S.rf⟩ hl h
def fX9_larks (a1 : Int32) (a2 : Int32) (a3 : Int32) (S : St) : Option TR :=
  bt (fX9_needWhat a3 2 S) fun x1 S => bt (fX9_needHours a2 0 S) fun x2 S => gm S 0 3 8 fun q4 => bv (fX0_begin q4 37 S) fun S => bv (fX0_goWithLarks a1 a2 S) fun S => (if a3 = 0 then bd (fX0_knownTogether  S) fun x19 S => tri x19 S else (if a3 = 1 then rd S 131 1 fun x14 => rd S 37 1 fun x17 => tri (x14 - x17) S else bd (fX0_greatestPurse  S) fun x11 S => tri x11 S))
set_option maxHeartbeats 4000000 in
set_option maxRecDepth 20000 in
theorem sfX9_larks (C : Cx p s m args meth c cX9_larks 4 RX9 G) (hr : meth.sig.returnType = some .int) (ht : ∀ x ∈ c.exceptionTable.toList, False) (hst : l.stackTraces = false) {a1 : Int32} {a2 : Int32} {a3 : Int32} {S : St} {res : TR} {H : Heap} {locs : List Loc} {ls : Array Slot}  (hd : Dy G S s H locs) (hl : lv_has ls 4 [(0, .ref (gR G 0)), (1, .int a1), (2, .int a2), (3, .int a3)]) (h : fX9_larks a1 a2 a3 S = some res) : W p l e (rmL 8 2 12) s m args below meth c H locs 0 0 (vx_MQ below (QTI G res) (XT G res) args s 2 12 (Ab G)) (F0 m 0 ls []) := by
  unfold fX9_larks at h
  have hx := C.1.1
  have hb := C.1.2.1
  refine lv_aload_n hx hb dX9_larks_0 rfl (lv_at hl 0 rfl) ?_
  refine lv_iload_n hx hb dX9_larks_1 rfl (lv_at hl 3 rfl) ?_
  refine lv_iconst (v := 2) hx hb dX9_larks_2 (by decide) ?_
  refine R_tVv C hd ht hst h (fun r0 hc => ccX9_needWhat l G hst  hc) kX9_217 rfl (by decide) (rfl : kd 0 = 9) hl.1 ⟨by decide, by decide⟩ rfl rfl (Nat.le_of_ble_eq_true rfl) dX9_larks_3 ⟨by decide, by decide⟩ (by decide) (by decide) (fun x1 S H locs hd h => ?_)
  refine lv_aload_n hx hb dX9_larks_6 rfl (lv_at hl 0 rfl) ?_
  refine lv_iload_n hx hb dX9_larks_7 rfl (lv_at hl 2 rfl) ?_
  refine lv_iconst (v := 0) hx hb dX9_larks_8 (by decide) ?_
  refine R_tVv C hd ht hst h (fun r0 hc => ccX9_needHours l G hst  hc) kX9_203 rfl (by decide) (rfl : kd 0 = 9) hl.1 ⟨by decide, by decide⟩ rfl rfl (Nat.le_of_ble_eq_true rfl) dX9_larks_9 ⟨by decide, by decide⟩ (by decide) (by decide) (fun x2 S H locs hd h => ?_)
  refine lv_aload_n hx hb dX9_larks_12 rfl (lv_at hl 0 rfl) ?_
  refine gX9_47 C hd (rfl : kd 0 = 9) (q := 130) rfl dX9_larks_13 (fun y3 => ?_)
  refine lv_aload_n hx hb dX9_larks_16 rfl (lv_at hl 0 rfl) ?_
  refine gX9_16 C hd (rfl : kd 0 = 9) h dX9_larks_17 (fun q4 kq4 h => ?_)
  refine lv_aload_n hx hb dX9_larks_20 rfl (lv_at hl 0 rfl) ?_
  refine gX9_35 C hd (rfl : kd 0 = 9) (q := 36) rfl dX9_larks_21 (fun y5 => ?_)
  refine gX9_111 C hd y5 (q := 37) rfl dX9_larks_24 (fun y6 => ?_)
  obtain ⟨S1, hc, h⟩ := bv_some h
  refine R_cVv C hd (ccX0_begin l G kq4 y6 hc) kX9_166 rfl (by decide) y3 hl.1 ⟨by decide, by decide⟩ rfl rfl (Nat.le_of_ble_eq_true rfl) dX9_larks_27 ⟨by decide, by decide⟩ (fun H locs hd => ?_)
  generalize S1 = S at h hd
  refine lv_aload_n hx hb dX9_larks_30 rfl (lv_at hl 0 rfl) ?_
  refine gX9_47 C hd (rfl : kd 0 = 9) (q := 130) rfl dX9_larks_31 (fun y7 => ?_)
  refine lv_iload_n hx hb dX9_larks_34 rfl (lv_at hl 1 rfl) ?_
  refine lv_iload_n hx hb dX9_larks_35 rfl (lv_at hl 2 rfl) ?_
  obtain ⟨S1, hc, h⟩ := bv_some h
  refine R_cVv C hd (ccX0_goWithLarks l G  hc) kX9_300 rfl (by decide) y7 hl.1 ⟨by decide, by decide⟩ rfl rfl (Nat.le_of_ble_eq_true rfl) dX9_larks_36 ⟨by decide, by decide⟩ (fun H locs hd => ?_)
  generalize S1 = S at h hd
  refine lv_iload_n hx hb dX9_larks_39 rfl (lv_at hl 3 rfl) ?_
  refine lv_if_ne (tgt := 51) hx hb dX9_larks_40 (by decide) (fun c8 => ?_) (fun c8 => ?_)
  · rw [if_neg c8] at h
    refine lv_iload_n hx hb dX9_larks_51 rfl (lv_at hl 3 rfl) ?_
    refine lv_iconst (v := 1) hx hb dX9_larks_52 (by decide) ?_
    refine lv_icmp_ne (tgt := 78) hx hb dX9_larks_53 (by decide) (fun c9 => ?_) (fun c9 => ?_)
    · rw [if_neg c9] at h
      refine lv_aload_n hx hb dX9_larks_78 rfl (lv_at hl 0 rfl) ?_
      refine gX9_47 C hd (rfl : kd 0 = 9) (q := 130) rfl dX9_larks_79 (fun y10 => ?_)
      obtain ⟨x11, S1, hc, h⟩ := bd_some h
      refine R_cVi C hd (ccX0_greatestPurse l G  hc) kX9_306 rfl (by decide) y10 hl.1 ⟨by decide, by decide⟩ rfl rfl (Nat.le_of_ble_eq_true rfl) dX9_larks_82 ⟨by decide, by decide⟩ (fun H locs hd => ?_)
      generalize S1 = S at h hd
      exact R_tiret C hr hd h (by decide) (by decide) dX9_larks_85
    · rw [if_pos c9] at h
      refine lv_aload_n hx hb dX9_larks_56 rfl (lv_at hl 0 rfl) ?_
      refine gX9_47 C hd (rfl : kd 0 = 9) (q := 130) rfl dX9_larks_57 (fun y12 => ?_)
      refine gX9_186 C hd y12 (q := 131) rfl dX9_larks_60 (fun y13 => ?_)
      refine lv_iconst (v := 1) hx hb dX9_larks_63 (by decide) ?_
      refine R_iald C hd y13 h dX9_larks_64 (fun x14 h => ?_)
      refine lv_aload_n hx hb dX9_larks_65 rfl (lv_at hl 0 rfl) ?_
      refine gX9_35 C hd (rfl : kd 0 = 9) (q := 36) rfl dX9_larks_66 (fun y15 => ?_)
      refine gX9_111 C hd y15 (q := 37) rfl dX9_larks_69 (fun y16 => ?_)
      refine lv_iconst (v := 1) hx hb dX9_larks_72 (by decide) ?_
      refine R_iald C hd y16 h dX9_larks_73 (fun x17 h => ?_)
      refine lv_isub hx hb dX9_larks_74 ?_
      refine lv_goto (tgt := 85) hx hb dX9_larks_75 (by decide) ?_
      exact R_tiret C hr hd h (by decide) (by decide) dX9_larks_85
  · rw [if_pos c8] at h
    refine lv_aload_n hx hb dX9_larks_43 rfl (lv_at hl 0 rfl) ?_
    refine gX9_47 C hd (rfl : kd 0 = 9) (q := 130) rfl dX9_larks_44 (fun y18 => ?_)
    obtain ⟨x19, S1, hc, h⟩ := bd_some h
    refine R_cVi C hd (ccX0_knownTogether l G  hc) kX9_303 rfl (by decide) y18 hl.1 ⟨by decide, by decide⟩ rfl rfl (Nat.le_of_ble_eq_true rfl) dX9_larks_47 ⟨by decide, by decide⟩ (fun H locs hd => ?_)
    generalize S1 = S at h hd
    exact R_tiret C hr hd h (by decide) (by decide) dX9_larks_50
set_option maxRecDepth 20000 in
theorem ccX9_larks (l : Launch) (G : Gt) (hst : l.stackTraces = false) {a1 : Int32} {a2 : Int32} {a3 : Int32} {S : St} {res : TR}  (h : fX9_larks a1 a2 a3 S = some res) : vx_Met l yX9_larks (wm yX9_larks cX9_larks 4 (some .int)) (rmL 8 2 12) (PcW G S [.ref (gR G 0), .int a1, .int a2, .int a3]) (QTI G res) (XT G res) 2 12 (Ab G) := by
  refine vx_ofW (cc := cX9_larks) (maxL := 4) (ret := (some .int)) (by decide) rfl ?_
  intro p e s m args below meth c s₁ B hml ht hv
  obtain ⟨rfl, hK, hP⟩ := hv
  have C : Cx p s m _ meth c cX9_larks 4 RX9 G := ⟨⟨B.exec, B.bytes, hml, findClass_of_methodNamed B.named, fun w hw => atoms_spec (ws := wm yX9_larks cX9_larks 4 (some .int)) B.pre w (List.mem_cons_of_mem _ hw)⟩, B.notSynchronized, hK⟩
  have hl := lv_entry ([.ref (gR G 0), .int a1, .int a2, .int a3]) (n := 4) (Nat.le_of_ble_eq_true rfl)
  rw [lg_entry_eq]
  generalize (lg_sl ([.ref (gR G 0), .int a1, .int a2, .int a3]) ++ List.replicate (4 - (lg_sl ([.ref (gR G 0), .int a1, .int a2, .int a3])).length) Slot.unset).toArray = ls at hl ⊢
  exact sfX9_larks C B.returns ht hst  ⟨hP, va_S.rf⟩ hl h
def fX9_image  (S : St) : Option St :=
  bv (fX4_copy 83 36 S) fun S => pz S 0 8 1 fun S => some S
set_option maxHeartbeats 4000000 in
set_option maxRecDepth 20000 in
theorem sfX9_image (C : Cx p s m args meth c cX9_image 1 RX9 G) (hr : meth.sig.returnType = none)  {S : St} {res : St} {H : Heap} {locs : List Loc} {ls : Array Slot}  (hd : Dy G S s H locs) (hl : lv_has ls 1 [(0, .ref (gR G 0))]) (h : fX9_image  S = some res) : W p l e (rmL 4 0 0) s m args below meth c H locs 0 0 (MQ below (QV G res) args s 0 0 (Ab G)) (F0 m 0 ls []) := by
  unfold fX9_image at h
  have hx := C.1.1
  have hb := C.1.2.1
  refine lv_aload_n hx hb dX9_image_0 rfl (lv_at hl 0 rfl) ?_
  refine gX9_39 C hd (rfl : kd 0 = 9) (q := 83) rfl dX9_image_1 (fun y1 => ?_)
  refine lv_aload_n hx hb dX9_image_4 rfl (lv_at hl 0 rfl) ?_
  refine gX9_35 C hd (rfl : kd 0 = 9) (q := 36) rfl dX9_image_5 (fun y2 => ?_)
  obtain ⟨S1, hc, h⟩ := bv_some h
  refine R_cVv C hd (ccX4_copy l G y1 y2 hc) kX9_309 rfl (by decide) y1 hl.1 ⟨by decide, by decide⟩ rfl rfl (Nat.le_of_ble_eq_true rfl) dX9_image_8 ⟨Nat.zero_le _, Nat.zero_le _⟩ (fun H locs hd => ?_)
  generalize S1 = S at h hd
  refine lv_aload_n hx hb dX9_image_11 rfl (lv_at hl 0 rfl) ?_
  refine lv_iconst (v := 1) hx hb dX9_image_12 (by decide) ?_
  refine pX9_98 C hd (rfl : kd 0 = 9) h dX9_image_13 (fun S H locs hd h => ?_)
  exact R_vret C hr hd h dX9_image_16
set_option maxRecDepth 20000 in
theorem ccX9_image (l : Launch) (G : Gt)  {S : St} {res : St}  (h : fX9_image  S = some res) : Met l yX9_image (wm yX9_image cX9_image 1 (none)) (rmL 4 0 0) (PcW G S [.ref (gR G 0)]) (QV G res) 0 0 (Ab G) := by
  refine Met.ofW (cc := cX9_image) (maxL := 1) (ret := none) (by decide) rfl ?_
  intro p e s m args below meth c s₁ B hml hv
  obtain ⟨rfl, hK, hP⟩ := hv
  have C : Cx p s m _ meth c cX9_image 1 RX9 G := ⟨⟨B.exec, B.bytes, hml, findClass_of_methodNamed B.named, fun w hw => atoms_spec (ws := wm yX9_image cX9_image 1 (none)) B.pre w (List.mem_cons_of_mem _ hw)⟩, B.notSynchronized, hK⟩
  have hl := lv_entry ([.ref (gR G 0)]) (n := 1) (Nat.le_of_ble_eq_true rfl)
  rw [lg_entry_eq]
  generalize (lg_sl ([.ref (gR G 0)]) ++ List.replicate (1 - (lg_sl ([.ref (gR G 0)])).length) Slot.unset).toArray = ls at hl ⊢
  exact sfX9_image C B.returns  ⟨hP, va_S.rf⟩ hl h
def fX9_restore  (S : St) : Option (Int32 × St) :=
  (if (S 0 8) = 0 then rz 0 S else bv (fX4_copy 36 83 S) fun S => rz 1 S)
set_option maxHeartbeats 4000000 in
set_option maxRecDepth 20000 in
theorem sfX9_restore (C : Cx p s m args meth c cX9_restore 1 RX9 G) (hr : meth.sig.returnType = some .boolean)  {S : St} {res : (Int32 × St)} {H : Heap} {locs : List Loc} {ls : Array Slot}  (hd : Dy G S s H locs) (hl : lv_has ls 1 [(0, .ref (gR G 0))]) (h : fX9_restore  S = some res) : W p l e (rmL 4 0 0) s m args below meth c H locs 0 0 (MQ below (QI G res.1 res.2) args s 0 0 (Ab G)) (F0 m 0 ls []) := by
  unfold fX9_restore at h
  have hx := C.1.1
  have hb := C.1.2.1
  refine lv_aload_n hx hb dX9_restore_0 rfl (lv_at hl 0 rfl) ?_
  refine gX9_98 C hd (rfl : kd 0 = 9) dX9_restore_1 ?_
  refine lv_if_ne (tgt := 9) hx hb dX9_restore_4 (by decide) (fun c1 => ?_) (fun c1 => ?_)
  · rw [if_neg c1] at h
    refine lv_aload_n hx hb dX9_restore_9 rfl (lv_at hl 0 rfl) ?_
    refine gX9_35 C hd (rfl : kd 0 = 9) (q := 36) rfl dX9_restore_10 (fun y2 => ?_)
    refine lv_aload_n hx hb dX9_restore_13 rfl (lv_at hl 0 rfl) ?_
    refine gX9_39 C hd (rfl : kd 0 = 9) (q := 83) rfl dX9_restore_14 (fun y3 => ?_)
    obtain ⟨S1, hc, h⟩ := bv_some h
    refine R_cVv C hd (ccX4_copy l G y2 y3 hc) kX9_309 rfl (by decide) y2 hl.1 ⟨by decide, by decide⟩ rfl rfl (Nat.le_of_ble_eq_true rfl) dX9_restore_17 ⟨Nat.zero_le _, Nat.zero_le _⟩ (fun H locs hd => ?_)
    generalize S1 = S at h hd
    refine lv_iconst (v := 1) hx hb dX9_restore_20 (by decide) ?_
    exact R_zret C hr hd h dX9_restore_21
  · rw [if_pos c1] at h
    refine lv_iconst (v := 0) hx hb dX9_restore_7 (by decide) ?_
    exact R_zret C hr hd h dX9_restore_8
set_option maxRecDepth 20000 in
theorem ccX9_restore (l : Launch) (G : Gt)  {S : St} {res : (Int32 × St)}  (h : fX9_restore  S = some res) : Met l yX9_restore (wm yX9_restore cX9_restore 1 (some .boolean)) (rmL 4 0 0) (PcW G S [.ref (gR G 0)]) (QI G res.1 res.2) 0 0 (Ab G) := by
  refine Met.ofW (cc := cX9_restore) (maxL := 1) (ret := (some .boolean)) (by decide) rfl ?_
  intro p e s m args below meth c s₁ B hml hv
  obtain ⟨rfl, hK, hP⟩ := hv
  have C : Cx p s m _ meth c cX9_restore 1 RX9 G := ⟨⟨B.exec, B.bytes, hml, findClass_of_methodNamed B.named, fun w hw => atoms_spec (ws := wm yX9_restore cX9_restore 1 (some .boolean)) B.pre w (List.mem_cons_of_mem _ hw)⟩, B.notSynchronized, hK⟩
  have hl := lv_entry ([.ref (gR G 0)]) (n := 1) (Nat.le_of_ble_eq_true rfl)
  rw [lg_entry_eq]
  generalize (lg_sl ([.ref (gR G 0)]) ++ List.replicate (1 - (lg_sl ([.ref (gR G 0)])).length) Slot.unset).toArray = ls at hl ⊢
  exact sfX9_restore C B.returns  ⟨hP, va_S.rf⟩ hl h
end T28
