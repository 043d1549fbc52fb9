theorem fC_1 {z : Bool} {k : Int32} {en : Nat} {S : St} {res : Int32 × St} (h1 : ¬ en = 1) (h : fC (some k) none z (some (.inr en, S)) = some res) : False := by
  unfold fC at h
  dsimp only at h
  rw [if_neg h1] at h
  split at h <;> cases h
theorem fC_2 {z : Bool} {k : Int32} {en : Nat} {S : St} {res : Int32 × St} (h1 : ¬ en = 2) (h : fC none (some k) z (some (.inr en, S)) = some res) : False := by
  unfold fC at h
  dsimp only at h
  split at h
  · cases h
  · first | cases h | (rw [if_neg h1] at h; cases h)
theorem fC_12 {z : Bool} {k j : Int32} {en : Nat} {S : St} {res : Int32 × St} (h1 : ¬ en = 1) (h2 : ¬ en = 2) (h : fC (some k) (some j) z (some (.inr en, S)) = some res) : False := by
  unfold fC at h
  dsimp only at h
  rw [if_neg h1, if_neg h2] at h; cases h
section HLP
variable {p : Program} {l : Launch} {e : Env} {s : State} {m : MethodId} {args : Array Value} {below : List Frame} {meth : Method} {c : Code} {G : Gt}
theorem dL_valley_0 : decode cL_valley 0 = .ok (.aload_n 2, 1) := by decide +kernel
theorem dL_valley_1 : decode cL_valley 1 = .ok (.iconst 0, 1) := by decide +kernel
theorem dL_valley_2 : decode cL_valley 2 = .ok (.aload_n 0, 1) := by decide +kernel
theorem dL_valley_3 : decode cL_valley 3 = .ok (.iload_n 1, 1) := by decide +kernel
theorem dL_valley_4 : decode cL_valley 4 = .ok (.invokevirtual 7, 3) := by decide +kernel
theorem dL_valley_7 : decode cL_valley 7 = .ok (.i2l, 1) := by decide +kernel
theorem dL_valley_8 : decode cL_valley 8 = .ok (.lastore, 1) := by decide +kernel
theorem dL_valley_9 : decode cL_valley 9 = .ok (.goto 6, 3) := by decide +kernel
theorem dL_valley_12 : decode cL_valley 12 = .ok (.astore_n 3, 1) := by decide +kernel
theorem dL_valley_13 : decode cL_valley 13 = .ok (.iconst 1, 1) := by decide +kernel
theorem dL_valley_14 : decode cL_valley 14 = .ok (.ireturn, 1) := by decide +kernel
theorem dL_valley_15 : decode cL_valley 15 = .ok (.iconst 0, 1) := by decide +kernel
theorem dL_valley_16 : decode cL_valley 16 = .ok (.ireturn, 1) := by decide +kernel
theorem kL_7 : CV RL 7 RX9 yX9_valley cX9_valley 4 (some .int) 1 := ⟨wsV_gt wd517 wd518 wd519 wd1 wd520, by decide +kernel⟩
set_option maxHeartbeats 4000000 in
set_option maxRecDepth 20000 in
theorem sL_valley (C : Cx p s m args meth c cL_valley 4 RL G) (hr : meth.sig.returnType = some .int) (ht : c.exceptionTable.toList = tableOf [(0, 9, 12, 13)]) (hst : l.stackTraces = false) {a1 : Int32} {S : St} {res : Int32 × St} {H : Heap} {locs : List Loc} {ls : Array Slot} (hd : Dy G S s H locs) (hl : lv_has ls 4 [(0, .ref (gR G 0)), (1, .int a1), (2, .ref (gR G 186))]) (h : fC none (some 1) false (fX9_valley a1 S) = some res) : W p l e (rmL 13 1 6) s m args below meth c H locs 0 0 (MQ below (QI G res.1 res.2) args s 1 6 (Ab G)) (F0 m 0 ls []) := by
  have hx := C.1.1
  have hb := C.1.2.1
  cases hf : fX9_valley a1 S with
  | none => rw [hf] at h; cases h
  | some w0 =>
    obtain ⟨w, S1⟩ := w0
    rw [hf] at h
    refine lv_aload_n hx hb dL_valley_0 rfl (lv_at hl 2 rfl) ?_
    refine lv_iconst hx hb dL_valley_1 rfl ?_
    refine lv_aload_n hx hb dL_valley_2 rfl (lv_at hl 0 rfl) ?_
    refine lv_iload_n hx hb dL_valley_3 rfl (lv_at hl 1 rfl) ?_
    refine R_tVc (rest := [.int 0, .ref (gR G 186)]) (As := [.int a1]) C hd (ccX9_valley l G hst hf) kL_7 rfl (by decide) (rfl : kd 0 = 9) hl.1 ⟨by decide, by decide⟩ rfl rfl (Nat.le_of_ble_eq_true rfl) dL_valley_4 ⟨by decide, by decide⟩ ?_ ?_
    · intro en hen ce q9 H1 locs1 hd1 hce hcv hcl9
      subst hen
      by_cases c2 : en = 2
      · subst c2
        refine vx_catch (own := RL) (name := nIA) C.1.2.2.2.1 [] ⟨0, 9, 12, 13⟩ [] ht (fun z hz => nomatch hz) (by decide) (by decide) (C.1.2.2.2.2 _ wd516) (C.cst 2) hce hcv hcl9 ?_
        refine lv_astore_n hx hb dL_valley_12 rfl hl (by decide) rfl (fun ls hl => ?_)
        refine lv_iconst hx hb dL_valley_13 rfl ?_
        exact R_iret C hr hd1 h dL_valley_14
      · exfalso
        exact fC_2 c2 h
    · intro v hv H1 locs1 hd1
      subst hv
      refine lv_i2l hx hb dL_valley_7 rfl ?_
      refine R_last (v := v) C hd1 dL_valley_8 (fun H2 locs2 hd2 => ?_)
      refine lv_goto (tgt := 15) hx hb dL_valley_9 (by decide) ?_
      refine lv_iconst hx hb dL_valley_15 rfl ?_
      exact R_iret C hr hd2 h dL_valley_16
set_option maxRecDepth 20000 in
theorem ccL_valley (l : Launch) (G : Gt) (hst : l.stackTraces = false) {a1 : Int32} {S : St} {res : Int32 × St} (h : fC none (some 1) false (fX9_valley a1 S) = some res) : Met l yL_valley (wmH yL_valley cL_valley 4 (some .int) [(0, 9, 12, 13)]) (rmL 13 1 6) (PcW G S [.ref (gR G 0), .int a1, .ref (gR G 186)]) (QI G res.1 res.2) 1 6 (Ab G) := by
  refine Mt_ofWH (cc := cL_valley) (maxL := 4) (ret := (some .int)) (hh := [(0, 9, 12, 13)]) (by decide) rfl ?_
  intro p e s m args below meth c s₁ B hml ht hv
  obtain ⟨rfl, hK, hP⟩ := hv
  have C : Cx p s m _ meth c cL_valley 4 RL G := ⟨⟨B.exec, B.bytes, hml, findClass_of_methodNamed B.named, fun w hw => atoms_spec (ws := wmH yL_valley cL_valley 4 (some .int) [(0, 9, 12, 13)]) B.pre w (List.mem_cons_of_mem _ hw)⟩, B.notSynchronized, hK⟩
  have hl := lv_entry ([.ref (gR G 0), .int a1, .ref (gR G 186)]) (n := 4) (Nat.le_of_ble_eq_true rfl)
  rw [lg_entry_eq]
  generalize (lg_sl ([.ref (gR G 0), .int a1, .ref (gR G 186)]) ++ List.replicate (4 - (lg_sl ([.ref (gR G 0), .int a1, .ref (gR G 186)])).length) Slot.unset).toArray = ls at hl ⊢
  exact sL_valley C B.returns ht hst ⟨hP, va_S.rf⟩ hl h
theorem dL_count_0 : decode cL_count 0 = .ok (.aload_n 2, 1) := by decide +kernel
theorem dL_count_1 : decode cL_count 1 = .ok (.iconst 0, 1) := by decide +kernel
theorem dL_count_2 : decode cL_count 2 = .ok (.aload_n 0, 1) := by decide +kernel
theorem dL_count_3 : decode cL_count 3 = .ok (.iload_n 1, 1) := by decide +kernel
theorem dL_count_4 : decode cL_count 4 = .ok (.invokevirtual 15, 3) := by decide +kernel
theorem dL_count_7 : decode cL_count 7 = .ok (.i2l, 1) := by decide +kernel
theorem dL_count_8 : decode cL_count 8 = .ok (.lastore, 1) := by decide +kernel
theorem dL_count_9 : decode cL_count 9 = .ok (.goto 6, 3) := by decide +kernel
theorem dL_count_12 : decode cL_count 12 = .ok (.astore_n 3, 1) := by decide +kernel
theorem dL_count_13 : decode cL_count 13 = .ok (.iconst 1, 1) := by decide +kernel
theorem dL_count_14 : decode cL_count 14 = .ok (.ireturn, 1) := by decide +kernel
theorem dL_count_15 : decode cL_count 15 = .ok (.iconst 0, 1) := by decide +kernel
theorem dL_count_16 : decode cL_count 16 = .ok (.ireturn, 1) := by decide +kernel
theorem kL_15 : CV RL 15 RX9 yX9_count cX9_count 2 (some .int) 1 := ⟨wsV_gt wd810 wd811 wd812 wd1 wd813, by decide +kernel⟩
set_option maxHeartbeats 4000000 in
set_option maxRecDepth 20000 in
theorem sL_count (C : Cx p s m args meth c cL_count 4 RL G) (hr : meth.sig.returnType = some .int) (ht : c.exceptionTable.toList = tableOf [(0, 9, 12, 18)]) (hst : l.stackTraces = false) {a1 : Int32} {S : St} {res : Int32 × St} {H : Heap} {locs : List Loc} {ls : Array Slot} (hd : Dy G S s H locs) (hl : lv_has ls 4 [(0, .ref (gR G 0)), (1, .int a1), (2, .ref (gR G 186))]) (h : fC (some 1) none false (fX9_count a1 S) = some res) : W p l e (rmL 7 1 6) s m args below meth c H locs 0 0 (MQ below (QI G res.1 res.2) args s 1 6 (Ab G)) (F0 m 0 ls []) := by
  have hx := C.1.1
  have hb := C.1.2.1
  cases hf : fX9_count a1 S with
  | none => rw [hf] at h; cases h
  | some w0 =>
    obtain ⟨w, S1⟩ := w0
    rw [hf] at h
    refine lv_aload_n hx hb dL_count_0 rfl (lv_at hl 2 rfl) ?_
    refine lv_iconst hx hb dL_count_1 rfl ?_
    refine lv_aload_n hx hb dL_count_2 rfl (lv_at hl 0 rfl) ?_
    refine lv_iload_n hx hb dL_count_3 rfl (lv_at hl 1 rfl) ?_
    refine R_tVc (rest := [.int 0, .ref (gR G 186)]) (As := [.int a1]) C hd (ccX9_count l G hst hf) kL_15 rfl (by decide) (rfl : kd 0 = 9) hl.1 ⟨by decide, by decide⟩ rfl rfl (Nat.le_of_ble_eq_true rfl) dL_count_4 ⟨by decide, by decide⟩ ?_ ?_
    · intro en hen ce q9 H1 locs1 hd1 hce hcv hcl9
      subst hen
      by_cases c1 : en = 1
      · subst c1
        refine vx_catch (own := RL) (name := nNS) C.1.2.2.2.1 [] ⟨0, 9, 12, 18⟩ [] ht (fun z hz => nomatch hz) (by decide) (by decide) (C.1.2.2.2.2 _ wd809) (C.cst 1) hce hcv hcl9 ?_
        refine lv_astore_n hx hb dL_count_12 rfl hl (by decide) rfl (fun ls hl => ?_)
        refine lv_iconst hx hb dL_count_13 rfl ?_
        exact R_iret C hr hd1 h dL_count_14
      · exfalso
        exact fC_1 c1 h
    · intro v hv H1 locs1 hd1
      subst hv
      refine lv_i2l hx hb dL_count_7 rfl ?_
      refine R_last (v := v) C hd1 dL_count_8 (fun H2 locs2 hd2 => ?_)
      refine lv_goto (tgt := 15) hx hb dL_count_9 (by decide) ?_
      refine lv_iconst hx hb dL_count_15 rfl ?_
      exact R_iret C hr hd2 h dL_count_16
set_option maxRecDepth 20000 in
theorem ccL_count (l : Launch) (G : Gt) (hst : l.stackTraces = false) {a1 : Int32} {S : St} {res : Int32 × St} (h : fC (some 1) none false (fX9_count a1 S) = some res) : Met l yL_count (wmH yL_count cL_count 4 (some .int) [(0, 9, 12, 18)]) (rmL 7 1 6) (PcW G S [.ref (gR G 0), .int a1, .ref (gR G 186)]) (QI G res.1 res.2) 1 6 (Ab G) := by
  refine Mt_ofWH (cc := cL_count) (maxL := 4) (ret := (some .int)) (hh := [(0, 9, 12, 18)]) (by decide) rfl ?_
  intro p e s m args below meth c s₁ B hml ht hv
  obtain ⟨rfl, hK, hP⟩ := hv
  have C : Cx p s m _ meth c cL_count 4 RL G := ⟨⟨B.exec, B.bytes, hml, findClass_of_methodNamed B.named, fun w hw => atoms_spec (ws := wmH yL_count cL_count 4 (some .int) [(0, 9, 12, 18)]) B.pre w (List.mem_cons_of_mem _ hw)⟩, B.notSynchronized, hK⟩
  have hl := lv_entry ([.ref (gR G 0), .int a1, .ref (gR G 186)]) (n := 4) (Nat.le_of_ble_eq_true rfl)
  rw [lg_entry_eq]
  generalize (lg_sl ([.ref (gR G 0), .int a1, .ref (gR G 186)]) ++ List.replicate (4 - (lg_sl ([.ref (gR G 0), .int a1, .ref (gR G 186)])).length) Slot.unset).toArray = ls at hl ⊢
  exact sL_count C B.returns ht hst ⟨hP, va_S.rf⟩ hl h
theorem dL_field_0 : decode cL_field 0 = .ok (.aload_n 3, 1) := by decide +kernel
theorem dL_field_1 : decode cL_field 1 = .ok (.iconst 0, 1) := by decide +kernel
theorem dL_field_2 : decode cL_field 2 = .ok (.aload_n 0, 1) := by decide +kernel
theorem dL_field_3 : decode cL_field 3 = .ok (.iload_n 1, 1) := by decide +kernel
theorem dL_field_4 : decode cL_field 4 = .ok (.iload_n 2, 1) := by decide +kernel
theorem dL_field_5 : decode cL_field 5 = .ok (.invokevirtual 20, 3) := by decide +kernel
theorem dL_field_8 : decode cL_field 8 = .ok (.i2l, 1) := by decide +kernel
theorem dL_field_9 : decode cL_field 9 = .ok (.lastore, 1) := by decide +kernel
theorem dL_field_10 : decode cL_field 10 = .ok (.goto 7, 3) := by decide +kernel
theorem dL_field_13 : decode cL_field 13 = .ok (.astore 4, 2) := by decide +kernel
theorem dL_field_15 : decode cL_field 15 = .ok (.iconst 1, 1) := by decide +kernel
theorem dL_field_16 : decode cL_field 16 = .ok (.ireturn, 1) := by decide +kernel
theorem dL_field_17 : decode cL_field 17 = .ok (.iconst 0, 1) := by decide +kernel
theorem dL_field_18 : decode cL_field 18 = .ok (.ireturn, 1) := by decide +kernel
theorem kL_20 : CV RL 20 RX9 yX9_field cX9_field 3 (some .int) 2 := ⟨wsV_gt wd833 wd834 wd835 wd1 wd836, by decide +kernel⟩
set_option maxHeartbeats 4000000 in
set_option maxRecDepth 20000 in
theorem sL_field (C : Cx p s m args meth c cL_field 5 RL G) (hr : meth.sig.returnType = some .int) (ht : c.exceptionTable.toList = tableOf [(0, 10, 13, 18)]) (hst : l.stackTraces = false) {a1 : Int32} {a2 : Int32} {S : St} {res : Int32 × St} {H : Heap} {locs : List Loc} {ls : Array Slot} (hd : Dy G S s H locs) (hl : lv_has ls 5 [(0, .ref (gR G 0)), (1, .int a1), (2, .int a2), (3, .ref (gR G 186))]) (h : fC (some 1) none false (fX9_field a1 a2 S) = some res) : W p l e (rmL 8 2 12) s m args below meth c H locs 0 0 (MQ below (QI G res.1 res.2) args s 2 12 (Ab G)) (F0 m 0 ls []) := by
  have hx := C.1.1
  have hb := C.1.2.1
  cases hf : fX9_field a1 a2 S with
  | none => rw [hf] at h; cases h
  | some w0 =>
    obtain ⟨w, S1⟩ := w0
    rw [hf] at h
    refine lv_aload_n hx hb dL_field_0 rfl (lv_at hl 3 rfl) ?_
    refine lv_iconst hx hb dL_field_1 rfl ?_
    refine lv_aload_n hx hb dL_field_2 rfl (lv_at hl 0 rfl) ?_
    refine lv_iload_n hx hb dL_field_3 rfl (lv_at hl 1 rfl) ?_
    refine lv_iload_n hx hb dL_field_4 rfl (lv_at hl 2 rfl) ?_
    refine R_tVc (rest := [.int 0, .ref (gR G 186)]) (As := [.int a1, .int a2]) C hd (ccX9_field l G hst hf) kL_20 rfl (by decide) (rfl : kd 0 = 9) hl.1 ⟨by decide, by decide⟩ rfl rfl (Nat.le_of_ble_eq_true rfl) dL_field_5 ⟨by decide, by decide⟩ ?_ ?_
    · intro en hen ce q9 H1 locs1 hd1 hce hcv hcl9
      subst hen
      by_cases c1 : en = 1
      · subst c1
        refine vx_catch (own := RL) (name := nNS) C.1.2.2.2.1 [] ⟨0, 10, 13, 18⟩ [] ht (fun z hz => nomatch hz) (by decide) (by decide) (C.1.2.2.2.2 _ wd809) (C.cst 1) hce hcv hcl9 ?_
        refine lv_astore hx hb dL_field_13 hl (by decide) rfl (fun ls hl => ?_)
        refine lv_iconst hx hb dL_field_15 rfl ?_
        exact R_iret C hr hd1 h dL_field_16
      · exfalso
        exact fC_1 c1 h
    · intro v hv H1 locs1 hd1
      subst hv
      refine lv_i2l hx hb dL_field_8 rfl ?_
      refine R_last (v := v) C hd1 dL_field_9 (fun H2 locs2 hd2 => ?_)
      refine lv_goto (tgt := 17) hx hb dL_field_10 (by decide) ?_
      refine lv_iconst hx hb dL_field_17 rfl ?_
      exact R_iret C hr hd2 h dL_field_18
set_option maxRecDepth 20000 in
theorem ccL_field (l : Launch) (G : Gt) (hst : l.stackTraces = false) {a1 : Int32} {a2 : Int32} {S : St} {res : Int32 × St} (h : fC (some 1) none false (fX9_field a1 a2 S) = some res) : Met l yL_field (wmH yL_field cL_field 5 (some .int) [(0, 10, 13, 18)]) (rmL 8 2 12) (PcW G S [.ref (gR G 0), .int a1, .int a2, .ref (gR G 186)]) (QI G res.1 res.2) 2 12 (Ab G) := by
  refine Mt_ofWH (cc := cL_field) (maxL := 5) (ret := (some .int)) (hh := [(0, 10, 13, 18)]) (by decide) rfl ?_
  intro p e s m args below meth c s₁ B hml ht hv
  obtain ⟨rfl, hK, hP⟩ := hv
  have C : Cx p s m _ meth c cL_field 5 RL G := ⟨⟨B.exec, B.bytes, hml, findClass_of_methodNamed B.named, fun w hw => atoms_spec (ws := wmH yL_field cL_field 5 (some .int) [(0, 10, 13, 18)]) B.pre w (List.mem_cons_of_mem _ hw)⟩, B.notSynchronized, hK⟩
  have hl := lv_entry ([.ref (gR G 0), .int a1, .int a2, .ref (gR G 186)]) (n := 5) (Nat.le_of_ble_eq_true rfl)
  rw [lg_entry_eq]
  generalize (lg_sl ([.ref (gR G 0), .int a1, .int a2, .ref (gR G 186)]) ++ List.replicate (5 - (lg_sl ([.ref (gR G 0), .int a1, .int a2, .ref (gR G 186)])).length) Slot.unset).toArray = ls at hl ⊢
  exact sL_field C B.returns ht hst ⟨hP, va_S.rf⟩ hl h
theorem dL_note_0 : decode cL_note 0 = .ok (.aload_n 3, 1) := by decide +kernel
theorem dL_note_1 : decode cL_note 1 = .ok (.iconst 0, 1) := by decide +kernel
theorem dL_note_2 : decode cL_note 2 = .ok (.aload_n 0, 1) := by decide +kernel
theorem dL_note_3 : decode cL_note 3 = .ok (.iload_n 1, 1) := by decide +kernel
theorem dL_note_4 : decode cL_note 4 = .ok (.iload_n 2, 1) := by decide +kernel
theorem dL_note_5 : decode cL_note 5 = .ok (.invokevirtual 24, 3) := by decide +kernel
theorem dL_note_8 : decode cL_note 8 = .ok (.i2l, 1) := by decide +kernel
theorem dL_note_9 : decode cL_note 9 = .ok (.lastore, 1) := by decide +kernel
theorem dL_note_10 : decode cL_note 10 = .ok (.goto 7, 3) := by decide +kernel
theorem dL_note_13 : decode cL_note 13 = .ok (.astore 4, 2) := by decide +kernel
theorem dL_note_15 : decode cL_note 15 = .ok (.iconst 1, 1) := by decide +kernel
theorem dL_note_16 : decode cL_note 16 = .ok (.ireturn, 1) := by decide +kernel
theorem dL_note_17 : decode cL_note 17 = .ok (.iconst 0, 1) := by decide +kernel
theorem dL_note_18 : decode cL_note 18 = .ok (.ireturn, 1) := by decide +kernel
theorem kL_24 : CV RL 24 RX9 yX9_note cX9_note 3 (some .int) 2 := ⟨wsV_gt wd858 wd859 wd860 wd1 wd861, by decide +kernel⟩
set_option maxHeartbeats 4000000 in
set_option maxRecDepth 20000 in
theorem sL_note (C : Cx p s m args meth c cL_note 5 RL G) (hr : meth.sig.returnType = some .int) (ht : c.exceptionTable.toList = tableOf [(0, 10, 13, 18)]) (hst : l.stackTraces = false) {a1 : Int32} {a2 : Int32} {S : St} {res : Int32 × St} {H : Heap} {locs : List Loc} {ls : Array Slot} (hd : Dy G S s H locs) (hl : lv_has ls 5 [(0, .ref (gR G 0)), (1, .int a1), (2, .int a2), (3, .ref (gR G 186))]) (h : fC (some 1) none false (fX9_note a1 a2 S) = some res) : W p l e (rmL 8 2 12) s m args below meth c H locs 0 0 (MQ below (QI G res.1 res.2) args s 2 12 (Ab G)) (F0 m 0 ls []) := by
  have hx := C.1.1
  have hb := C.1.2.1
  cases hf : fX9_note a1 a2 S with
  | none => rw [hf] at h; cases h
  | some w0 =>
    obtain ⟨w, S1⟩ := w0
    rw [hf] at h
    refine lv_aload_n hx hb dL_note_0 rfl (lv_at hl 3 rfl) ?_
    refine lv_iconst hx hb dL_note_1 rfl ?_
    refine lv_aload_n hx hb dL_note_2 rfl (lv_at hl 0 rfl) ?_
    refine lv_iload_n hx hb dL_note_3 rfl (lv_at hl 1 rfl) ?_
    refine lv_iload_n hx hb dL_note_4 rfl (lv_at hl 2 rfl) ?_
    refine R_tVc (rest := [.int 0, .ref (gR G 186)]) (As := [.int a1, .int a2]) C hd (ccX9_note l G hst hf) kL_24 rfl (by decide) (rfl : kd 0 = 9) hl.1 ⟨by decide, by decide⟩ rfl rfl (Nat.le_of_ble_eq_true rfl) dL_note_5 ⟨by decide, by decide⟩ ?_ ?_
    · intro en hen ce q9 H1 locs1 hd1 hce hcv hcl9
      subst hen
      by_cases c1 : en = 1
      · subst c1
        refine vx_catch (own := RL) (name := nNS) C.1.2.2.2.1 [] ⟨0, 10, 13, 18⟩ [] ht (fun z hz => nomatch hz) (by decide) (by decide) (C.1.2.2.2.2 _ wd809) (C.cst 1) hce hcv hcl9 ?_
        refine lv_astore hx hb dL_note_13 hl (by decide) rfl (fun ls hl => ?_)
        refine lv_iconst hx hb dL_note_15 rfl ?_
        exact R_iret C hr hd1 h dL_note_16
      · exfalso
        exact fC_1 c1 h
    · intro v hv H1 locs1 hd1
      subst hv
      refine lv_i2l hx hb dL_note_8 rfl ?_
      refine R_last (v := v) C hd1 dL_note_9 (fun H2 locs2 hd2 => ?_)
      refine lv_goto (tgt := 17) hx hb dL_note_10 (by decide) ?_
      refine lv_iconst hx hb dL_note_17 rfl ?_
      exact R_iret C hr hd2 h dL_note_18
set_option maxRecDepth 20000 in
theorem ccL_note (l : Launch) (G : Gt) (hst : l.stackTraces = false) {a1 : Int32} {a2 : Int32} {S : St} {res : Int32 × St} (h : fC (some 1) none false (fX9_note a1 a2 S) = some res) : Met l yL_note (wmH yL_note cL_note 5 (some .int) [(0, 10, 13, 18)]) (rmL 8 2 12) (PcW G S [.ref (gR G 0), .int a1, .int a2, .ref (gR G 186)]) (QI G res.1 res.2) 2 12 (Ab G) := by
  refine Mt_ofWH (cc := cL_note) (maxL := 5) (ret := (some .int)) (hh := [(0, 10, 13, 18)]) (by decide) rfl ?_
  intro p e s m args below meth c s₁ B hml ht hv
  obtain ⟨rfl, hK, hP⟩ := hv
  have C : Cx p s m _ meth c cL_note 5 RL G := ⟨⟨B.exec, B.bytes, hml, findClass_of_methodNamed B.named, fun w hw => atoms_spec (ws := wmH yL_note cL_note 5 (some .int) [(0, 10, 13, 18)]) B.pre w (List.mem_cons_of_mem _ hw)⟩, B.notSynchronized, hK⟩
  have hl := lv_entry ([.ref (gR G 0), .int a1, .int a2, .ref (gR G 186)]) (n := 5) (Nat.le_of_ble_eq_true rfl)
  rw [lg_entry_eq]
  generalize (lg_sl ([.ref (gR G 0), .int a1, .int a2, .ref (gR G 186)]) ++ List.replicate (5 - (lg_sl ([.ref (gR G 0), .int a1, .int a2, .ref (gR G 186)])).length) Slot.unset).toArray = ls at hl ⊢
  exact sL_note C B.returns ht hst ⟨hP, va_S.rf⟩ hl h
theorem dL_singer_0 : decode cL_singer 0 = .ok (.aload_n 3, 1) := by decide +kernel
theorem dL_singer_1 : decode cL_singer 1 = .ok (.iconst 0, 1) := by decide +kernel
theorem dL_singer_2 : decode cL_singer 2 = .ok (.aload_n 0, 1) := by decide +kernel
theorem dL_singer_3 : decode cL_singer 3 = .ok (.iload_n 1, 1) := by decide +kernel
theorem dL_singer_4 : decode cL_singer 4 = .ok (.iload_n 2, 1) := by decide +kernel
theorem dL_singer_5 : decode cL_singer 5 = .ok (.invokevirtual 27, 3) := by decide +kernel
theorem dL_singer_8 : decode cL_singer 8 = .ok (.i2l, 1) := by decide +kernel
theorem dL_singer_9 : decode cL_singer 9 = .ok (.lastore, 1) := by decide +kernel
theorem dL_singer_10 : decode cL_singer 10 = .ok (.goto 7, 3) := by decide +kernel
theorem dL_singer_13 : decode cL_singer 13 = .ok (.astore 4, 2) := by decide +kernel
theorem dL_singer_15 : decode cL_singer 15 = .ok (.iconst 1, 1) := by decide +kernel
theorem dL_singer_16 : decode cL_singer 16 = .ok (.ireturn, 1) := by decide +kernel
theorem dL_singer_17 : decode cL_singer 17 = .ok (.iconst 0, 1) := by decide +kernel
theorem dL_singer_18 : decode cL_singer 18 = .ok (.ireturn, 1) := by decide +kernel
theorem kL_27 : CV RL 27 RX9 yX9_singer cX9_singer 3 (some .int) 2 := ⟨wsV_gt wd866 wd867 wd868 wd1 wd869, by decide +kernel⟩
set_option maxHeartbeats 4000000 in
set_option maxRecDepth 20000 in
theorem sL_singer (C : Cx p s m args meth c cL_singer 5 RL G) (hr : meth.sig.returnType = some .int) (ht : c.exceptionTable.toList = tableOf [(0, 10, 13, 18)]) (hst : l.stackTraces = false) {a1 : Int32} {a2 : Int32} {S : St} {res : Int32 × St} {H : Heap} {locs : List Loc} {ls : Array Slot} (hd : Dy G S s H locs) (hl : lv_has ls 5 [(0, .ref (gR G 0)), (1, .int a1), (2, .int a2), (3, .ref (gR G 186))]) (h : fC (some 1) none false (fX9_singer a1 a2 S) = some res) : W p l e (rmL 8 2 12) s m args below meth c H locs 0 0 (MQ below (QI G res.1 res.2) args s 2 12 (Ab G)) (F0 m 0 ls []) := by
  have hx := C.1.1
  have hb := C.1.2.1
  cases hf : fX9_singer a1 a2 S with
  | none => rw [hf] at h; cases h
  | some w0 =>
    obtain ⟨w, S1⟩ := w0
    rw [hf] at h
    refine lv_aload_n hx hb dL_singer_0 rfl (lv_at hl 3 rfl) ?_
    refine lv_iconst hx hb dL_singer_1 rfl ?_
    refine lv_aload_n hx hb dL_singer_2 rfl (lv_at hl 0 rfl) ?_
    refine lv_iload_n hx hb dL_singer_3 rfl (lv_at hl 1 rfl) ?_
    refine lv_iload_n hx hb dL_singer_4 rfl (lv_at hl 2 rfl) ?_
    refine R_tVc (rest := [.int 0, .ref (gR G 186)]) (As := [.int a1, .int a2]) C hd (ccX9_singer l G hst hf) kL_27 rfl (by decide) (rfl : kd 0 = 9) hl.1 ⟨by decide, by decide⟩ rfl rfl (Nat.le_of_ble_eq_true rfl) dL_singer_5 ⟨by decide, by decide⟩ ?_ ?_
    · intro en hen ce q9 H1 locs1 hd1 hce hcv hcl9
      subst hen
      by_cases c1 : en = 1
      · subst c1
        refine vx_catch (own := RL) (name := nNS) C.1.2.2.2.1 [] ⟨0, 10, 13, 18⟩ [] ht (fun z hz => nomatch hz) (by decide) (by decide) (C.1.2.2.2.2 _ wd809) (C.cst 1) hce hcv hcl9 ?_
        refine lv_astore hx hb dL_singer_13 hl (by decide) rfl (fun ls hl => ?_)
        refine lv_iconst hx hb dL_singer_15 rfl ?_
        exact R_iret C hr hd1 h dL_singer_16
      · exfalso
        exact fC_1 c1 h
    · intro v hv H1 locs1 hd1
      subst hv
      refine lv_i2l hx hb dL_singer_8 rfl ?_
      refine R_last (v := v) C hd1 dL_singer_9 (fun H2 locs2 hd2 => ?_)
      refine lv_goto (tgt := 17) hx hb dL_singer_10 (by decide) ?_
      refine lv_iconst hx hb dL_singer_17 rfl ?_
      exact R_iret C hr hd2 h dL_singer_18
set_option maxRecDepth 20000 in
theorem ccL_singer (l : Launch) (G : Gt) (hst : l.stackTraces = false) {a1 : Int32} {a2 : Int32} {S : St} {res : Int32 × St} (h : fC (some 1) none false (fX9_singer a1 a2 S) = some res) : Met l yL_singer (wmH yL_singer cL_singer 5 (some .int) [(0, 10, 13, 18)]) (rmL 8 2 12) (PcW G S [.ref (gR G 0), .int a1, .int a2, .ref (gR G 186)]) (QI G res.1 res.2) 2 12 (Ab G) := by
  refine Mt_ofWH (cc := cL_singer) (maxL := 5) (ret := (some .int)) (hh := [(0, 10, 13, 18)]) (by decide) rfl ?_
  intro p e s m args below meth c s₁ B hml ht hv
  obtain ⟨rfl, hK, hP⟩ := hv
  have C : Cx p s m _ meth c cL_singer 5 RL G := ⟨⟨B.exec, B.bytes, hml, findClass_of_methodNamed B.named, fun w hw => atoms_spec (ws := wmH yL_singer cL_singer 5 (some .int) [(0, 10, 13, 18)]) B.pre w (List.mem_cons_of_mem _ hw)⟩, B.notSynchronized, hK⟩
  have hl := lv_entry ([.ref (gR G 0), .int a1, .int a2, .ref (gR G 186)]) (n := 5) (Nat.le_of_ble_eq_true rfl)
  rw [lg_entry_eq]
  generalize (lg_sl ([.ref (gR G 0), .int a1, .int a2, .ref (gR G 186)]) ++ List.replicate (5 - (lg_sl ([.ref (gR G 0), .int a1, .int a2, .ref (gR G 186)])).length) Slot.unset).toArray = ls at hl ⊢
  exact sL_singer C B.returns ht hst ⟨hP, va_S.rf⟩ hl h
theorem dL_way_0 : decode cL_way 0 = .ok (.aload_n 3, 1) := by decide +kernel
theorem dL_way_1 : decode cL_way 1 = .ok (.iconst 0, 1) := by decide +kernel
theorem dL_way_2 : decode cL_way 2 = .ok (.aload_n 0, 1) := by decide +kernel
theorem dL_way_3 : decode cL_way 3 = .ok (.iload_n 1, 1) := by decide +kernel
theorem dL_way_4 : decode cL_way 4 = .ok (.iload_n 2, 1) := by decide +kernel
theorem dL_way_5 : decode cL_way 5 = .ok (.invokevirtual 30, 3) := by decide +kernel
theorem dL_way_8 : decode cL_way 8 = .ok (.i2l, 1) := by decide +kernel
theorem dL_way_9 : decode cL_way 9 = .ok (.lastore, 1) := by decide +kernel
theorem dL_way_10 : decode cL_way 10 = .ok (.goto 7, 3) := by decide +kernel
theorem dL_way_13 : decode cL_way 13 = .ok (.astore 4, 2) := by decide +kernel
theorem dL_way_15 : decode cL_way 15 = .ok (.iconst 1, 1) := by decide +kernel
theorem dL_way_16 : decode cL_way 16 = .ok (.ireturn, 1) := by decide +kernel
theorem dL_way_17 : decode cL_way 17 = .ok (.iconst 0, 1) := by decide +kernel
theorem dL_way_18 : decode cL_way 18 = .ok (.ireturn, 1) := by decide +kernel
theorem kL_30 : CV RL 30 RX9 yX9_way cX9_way 3 (some .int) 2 := ⟨wsV_gt wd884 wd885 wd886 wd1 wd887, by decide +kernel⟩
set_option maxHeartbeats 4000000 in
set_option maxRecDepth 20000 in
theorem sL_way (C : Cx p s m args meth c cL_way 5 RL G) (hr : meth.sig.returnType = some .int) (ht : c.exceptionTable.toList = tableOf [(0, 10, 13, 18)]) (hst : l.stackTraces = false) {a1 : Int32} {a2 : Int32} {S : St} {res : Int32 × St} {H : Heap} {locs : List Loc} {ls : Array Slot} (hd : Dy G S s H locs) (hl : lv_has ls 5 [(0, .ref (gR G 0)), (1, .int a1), (2, .int a2), (3, .ref (gR G 186))]) (h : fC (some 1) none false (fX9_way a1 a2 S) = some res) : W p l e (rmL 8 2 12) s m args below meth c H locs 0 0 (MQ below (QI G res.1 res.2) args s 2 12 (Ab G)) (F0 m 0 ls []) := by
  have hx := C.1.1
  have hb := C.1.2.1
  cases hf : fX9_way a1 a2 S with
  | none => rw [hf] at h; cases h
  | some w0 =>
    obtain ⟨w, S1⟩ := w0
    rw [hf] at h
    refine lv_aload_n hx hb dL_way_0 rfl (lv_at hl 3 rfl) ?_
    refine lv_iconst hx hb dL_way_1 rfl ?_
    refine lv_aload_n hx hb dL_way_2 rfl (lv_at hl 0 rfl) ?_
    refine lv_iload_n hx hb dL_way_3 rfl (lv_at hl 1 rfl) ?_
    refine lv_iload_n hx hb dL_way_4 rfl (lv_at hl 2 rfl) ?_
    refine R_tVc (rest := [.int 0, .ref (gR G 186)]) (As := [.int a1, .int a2]) C hd (ccX9_way l G hst hf) kL_30 rfl (by decide) (rfl : kd 0 = 9) hl.1 ⟨by decide, by decide⟩ rfl rfl (Nat.le_of_ble_eq_true rfl) dL_way_5 ⟨by decide, by decide⟩ ?_ ?_
    · intro en hen ce q9 H1 locs1 hd1 hce hcv hcl9
      subst hen
      by_cases c1 : en = 1
      · subst c1
        refine vx_catch (own := RL) (name := nNS) C.1.2.2.2.1 [] ⟨0, 10, 13, 18⟩ [] ht (fun z hz => nomatch hz) (by decide) (by decide) (C.1.2.2.2.2 _ wd809) (C.cst 1) hce hcv hcl9 ?_
        refine lv_astore hx hb dL_way_13 hl (by decide) rfl (fun ls hl => ?_)
        refine lv_iconst hx hb dL_way_15 rfl ?_
        exact R_iret C hr hd1 h dL_way_16
      · exfalso
        exact fC_1 c1 h
    · intro v hv H1 locs1 hd1
      subst hv
      refine lv_i2l hx hb dL_way_8 rfl ?_
      refine R_last (v := v) C hd1 dL_way_9 (fun H2 locs2 hd2 => ?_)
      refine lv_goto (tgt := 17) hx hb dL_way_10 (by decide) ?_
      refine lv_iconst hx hb dL_way_17 rfl ?_
      exact R_iret C hr hd2 h dL_way_18
set_option maxRecDepth 20000 in
theorem ccL_way (l : Launch) (G : Gt) (hst : l.stackTraces = false) {a1 : Int32} {a2 : Int32} {S : St} {res : Int32 × St} (h : fC (some 1) none false (fX9_way a1 a2 S) = some res) : Met l yL_way (wmH yL_way cL_way 5 (some .int) [(0, 10, 13, 18)]) (rmL 8 2 12) (PcW G S [.ref (gR G 0), .int a1, .int a2, .ref (gR G 186)]) (QI G res.1 res.2) 2 12 (Ab G) := by
  refine Mt_ofWH (cc := cL_way) (maxL := 5) (ret := (some .int)) (hh := [(0, 10, 13, 18)]) (by decide) rfl ?_
  intro p e s m args below meth c s₁ B hml ht hv
  obtain ⟨rfl, hK, hP⟩ := hv
  have C : Cx p s m _ meth c cL_way 5 RL G := ⟨⟨B.exec, B.bytes, hml, findClass_of_methodNamed B.named, fun w hw => atoms_spec (ws := wmH yL_way cL_way 5 (some .int) [(0, 10, 13, 18)]) B.pre w (List.mem_cons_of_mem _ hw)⟩, B.notSynchronized, hK⟩
  have hl := lv_entry ([.ref (gR G 0), .int a1, .int a2, .ref (gR G 186)]) (n := 5) (Nat.le_of_ble_eq_true rfl)
  rw [lg_entry_eq]
  generalize (lg_sl ([.ref (gR G 0), .int a1, .int a2, .ref (gR G 186)]) ++ List.replicate (5 - (lg_sl ([.ref (gR G 0), .int a1, .int a2, .ref (gR G 186)])).length) Slot.unset).toArray = ls at hl ⊢
  exact sL_way C B.returns ht hst ⟨hP, va_S.rf⟩ hl h
theorem dL_earth_0 : decode cL_earth 0 = .ok (.aload_n 3, 1) := by decide +kernel
theorem dL_earth_1 : decode cL_earth 1 = .ok (.iconst 0, 1) := by decide +kernel
theorem dL_earth_2 : decode cL_earth 2 = .ok (.aload_n 0, 1) := by decide +kernel
theorem dL_earth_3 : decode cL_earth 3 = .ok (.iload_n 1, 1) := by decide +kernel
theorem dL_earth_4 : decode cL_earth 4 = .ok (.iload_n 2, 1) := by decide +kernel
theorem dL_earth_5 : decode cL_earth 5 = .ok (.invokevirtual 33, 3) := by decide +kernel
theorem dL_earth_8 : decode cL_earth 8 = .ok (.i2l, 1) := by decide +kernel
theorem dL_earth_9 : decode cL_earth 9 = .ok (.lastore, 1) := by decide +kernel
theorem dL_earth_10 : decode cL_earth 10 = .ok (.goto 7, 3) := by decide +kernel
theorem dL_earth_13 : decode cL_earth 13 = .ok (.astore 4, 2) := by decide +kernel
theorem dL_earth_15 : decode cL_earth 15 = .ok (.iconst 1, 1) := by decide +kernel
theorem dL_earth_16 : decode cL_earth 16 = .ok (.ireturn, 1) := by decide +kernel
theorem dL_earth_17 : decode cL_earth 17 = .ok (.iconst 0, 1) := by decide +kernel
theorem dL_earth_18 : decode cL_earth 18 = .ok (.ireturn, 1) := by decide +kernel
theorem kL_33 : CV RL 33 RX9 yX9_earth cX9_earth 3 (some .int) 2 := ⟨wsV_gt wd892 wd893 wd894 wd1 wd895, by decide +kernel⟩
set_option maxHeartbeats 4000000 in
set_option maxRecDepth 20000 in
theorem sL_earth (C : Cx p s m args meth c cL_earth 5 RL G) (hr : meth.sig.returnType = some .int) (ht : c.exceptionTable.toList = tableOf [(0, 10, 13, 18)]) (hst : l.stackTraces = false) {a1 : Int32} {a2 : Int32} {S : St} {res : Int32 × St} {H : Heap} {locs : List Loc} {ls : Array Slot} (hd : Dy G S s H locs) (hl : lv_has ls 5 [(0, .ref (gR G 0)), (1, .int a1), (2, .int a2), (3, .ref (gR G 186))]) (h : fC (some 1) none false (fX9_earth a1 a2 S) = some res) : W p l e (rmL 8 2 12) s m args below meth c H locs 0 0 (MQ below (QI G res.1 res.2) args s 2 12 (Ab G)) (F0 m 0 ls []) := by
  have hx := C.1.1
  have hb := C.1.2.1
  cases hf : fX9_earth a1 a2 S with
  | none => rw [hf] at h; cases h
  | some w0 =>
    obtain ⟨w, S1⟩ := w0
    rw [hf] at h
    refine lv_aload_n hx hb dL_earth_0 rfl (lv_at hl 3 rfl) ?_
    refine lv_iconst hx hb dL_earth_1 rfl ?_
    refine lv_aload_n hx hb dL_earth_2 rfl (lv_at hl 0 rfl) ?_
    refine lv_iload_n hx hb dL_earth_3 rfl (lv_at hl 1 rfl) ?_
    refine lv_iload_n hx hb dL_earth_4 rfl (lv_at hl 2 rfl) ?_
    refine R_tVc (rest := [.int 0, .ref (gR G 186)]) (As := [.int a1, .int a2]) C hd (ccX9_earth l G hst hf) kL_33 rfl (by decide) (rfl : kd 0 = 9) hl.1 ⟨by decide, by decide⟩ rfl rfl (Nat.le_of_ble_eq_true rfl) dL_earth_5 ⟨by decide, by decide⟩ ?_ ?_
    · intro en hen ce q9 H1 locs1 hd1 hce hcv hcl9
      subst hen
      by_cases c1 : en = 1
      · subst c1
        refine vx_catch (own := RL) (name := nNS) C.1.2.2.2.1 [] ⟨0, 10, 13, 18⟩ [] ht (fun z hz => nomatch hz) (by decide) (by decide) (C.1.2.2.2.2 _ wd809) (C.cst 1) hce hcv hcl9 ?_
        refine lv_astore hx hb dL_earth_13 hl (by decide) rfl (fun ls hl => ?_)
        refine lv_iconst hx hb dL_earth_15 rfl ?_
        exact R_iret C hr hd1 h dL_earth_16
      · exfalso
        exact fC_1 c1 h
    · intro v hv H1 locs1 hd1
      subst hv
      refine lv_i2l hx hb dL_earth_8 rfl ?_
      refine R_last (v := v) C hd1 dL_earth_9 (fun H2 locs2 hd2 => ?_)
      refine lv_goto (tgt := 17) hx hb dL_earth_10 (by decide) ?_
      refine lv_iconst hx hb dL_earth_17 rfl ?_
      exact R_iret C hr hd2 h dL_earth_18
set_option maxRecDepth 20000 in
theorem ccL_earth (l : Launch) (G : Gt) (hst : l.stackTraces = false) {a1 : Int32} {a2 : Int32} {S : St} {res : Int32 × St} (h : fC (some 1) none false (fX9_earth a1 a2 S) = some res) : Met l yL_earth (wmH yL_earth cL_earth 5 (some .int) [(0, 10, 13, 18)]) (rmL 8 2 12) (PcW G S [.ref (gR G 0), .int a1, .int a2, .ref (gR G 186)]) (QI G res.1 res.2) 2 12 (Ab G) := by
  refine Mt_ofWH (cc := cL_earth) (maxL := 5) (ret := (some .int)) (hh := [(0, 10, 13, 18)]) (by decide) rfl ?_
  intro p e s m args below meth c s₁ B hml ht hv
  obtain ⟨rfl, hK, hP⟩ := hv
  have C : Cx p s m _ meth c cL_earth 5 RL G := ⟨⟨B.exec, B.bytes, hml, findClass_of_methodNamed B.named, fun w hw => atoms_spec (ws := wmH yL_earth cL_earth 5 (some .int) [(0, 10, 13, 18)]) B.pre w (List.mem_cons_of_mem _ hw)⟩, B.notSynchronized, hK⟩
  have hl := lv_entry ([.ref (gR G 0), .int a1, .int a2, .ref (gR G 186)]) (n := 5) (Nat.le_of_ble_eq_true rfl)
  rw [lg_entry_eq]
  generalize (lg_sl ([.ref (gR G 0), .int a1, .int a2, .ref (gR G 186)]) ++ List.replicate (5 - (lg_sl ([.ref (gR G 0), .int a1, .int a2, .ref (gR G 186)])).length) Slot.unset).toArray = ls at hl ⊢
  exact sL_earth C B.returns ht hst ⟨hP, va_S.rf⟩ hl h
theorem dL_teach_0 : decode cL_teach 0 = .ok (.aload_n 3, 1) := by decide +kernel
theorem dL_teach_1 : decode cL_teach 1 = .ok (.iconst 0, 1) := by decide +kernel
theorem dL_teach_2 : decode cL_teach 2 = .ok (.aload_n 0, 1) := by decide +kernel
theorem dL_teach_3 : decode cL_teach 3 = .ok (.iload_n 1, 1) := by decide +kernel
theorem dL_teach_4 : decode cL_teach 4 = .ok (.iload_n 2, 1) := by decide +kernel
theorem dL_teach_5 : decode cL_teach 5 = .ok (.invokevirtual 36, 3) := by decide +kernel
theorem dL_teach_8 : decode cL_teach 8 = .ok (.ifCond .eq 7, 3) := by decide +kernel
theorem dL_teach_11 : decode cL_teach 11 = .ok (.lconst 1, 1) := by decide +kernel
theorem dL_teach_12 : decode cL_teach 12 = .ok (.goto 4, 3) := by decide +kernel
theorem dL_teach_15 : decode cL_teach 15 = .ok (.lconst 0, 1) := by decide +kernel
theorem dL_teach_16 : decode cL_teach 16 = .ok (.lastore, 1) := by decide +kernel
theorem dL_teach_17 : decode cL_teach 17 = .ok (.goto 7, 3) := by decide +kernel
theorem dL_teach_20 : decode cL_teach 20 = .ok (.astore 4, 2) := by decide +kernel
theorem dL_teach_22 : decode cL_teach 22 = .ok (.iconst 1, 1) := by decide +kernel
theorem dL_teach_23 : decode cL_teach 23 = .ok (.ireturn, 1) := by decide +kernel
theorem dL_teach_24 : decode cL_teach 24 = .ok (.iconst 0, 1) := by decide +kernel
theorem dL_teach_25 : decode cL_teach 25 = .ok (.ireturn, 1) := by decide +kernel
theorem kL_36 : CV RL 36 RX9 yX9_teach cX9_teach 3 (some .boolean) 2 := ⟨wsV_gt wd899 wd900 wd901 wd1 wd902, by decide +kernel⟩
set_option maxHeartbeats 4000000 in
set_option maxRecDepth 20000 in
theorem sL_teach (C : Cx p s m args meth c cL_teach 5 RL G) (hr : meth.sig.returnType = some .int) (ht : c.exceptionTable.toList = tableOf [(0, 17, 20, 18)]) (hst : l.stackTraces = false) {a1 : Int32} {a2 : Int32} {S : St} {res : Int32 × St} {H : Heap} {locs : List Loc} {ls : Array Slot} (hd : Dy G S s H locs) (hl : lv_has ls 5 [(0, .ref (gR G 0)), (1, .int a1), (2, .int a2), (3, .ref (gR G 186))]) (h : fC (some 1) none true (fX9_teach a1 a2 S) = some res) : W p l e (rmL 8 2 12) s m args below meth c H locs 0 0 (MQ below (QI G res.1 res.2) args s 2 12 (Ab G)) (F0 m 0 ls []) := by
  have hx := C.1.1
  have hb := C.1.2.1
  cases hf : fX9_teach a1 a2 S with
  | none => rw [hf] at h; cases h
  | some w0 =>
    obtain ⟨w, S1⟩ := w0
    rw [hf] at h
    refine lv_aload_n hx hb dL_teach_0 rfl (lv_at hl 3 rfl) ?_
    refine lv_iconst hx hb dL_teach_1 rfl ?_
    refine lv_aload_n hx hb dL_teach_2 rfl (lv_at hl 0 rfl) ?_
    refine lv_iload_n hx hb dL_teach_3 rfl (lv_at hl 1 rfl) ?_
    refine lv_iload_n hx hb dL_teach_4 rfl (lv_at hl 2 rfl) ?_
    refine R_tVc (rest := [.int 0, .ref (gR G 186)]) (As := [.int a1, .int a2]) C hd (ccX9_teach l G hst hf) kL_36 rfl (by decide) (rfl : kd 0 = 9) hl.1 ⟨by decide, by decide⟩ rfl rfl (Nat.le_of_ble_eq_true rfl) dL_teach_5 ⟨by decide, by decide⟩ ?_ ?_
    · intro en hen ce q9 H1 locs1 hd1 hce hcv hcl9
      subst hen
      by_cases c1 : en = 1
      · subst c1
        refine vx_catch (own := RL) (name := nNS) C.1.2.2.2.1 [] ⟨0, 17, 20, 18⟩ [] ht (fun z hz => nomatch hz) (by decide) (by decide) (C.1.2.2.2.2 _ wd809) (C.cst 1) hce hcv hcl9 ?_
        refine lv_astore hx hb dL_teach_20 hl (by decide) rfl (fun ls hl => ?_)
        refine lv_iconst hx hb dL_teach_22 rfl ?_
        exact R_iret C hr hd1 h dL_teach_23
      · exfalso
        exact fC_1 c1 h
    · intro v hv H1 locs1 hd1
      subst hv
      refine lv_if_eq (tgt := 15) hx hb dL_teach_8 (by decide) (fun cz => ?_) (fun cz => ?_)
      · have h : some (0, up S1 186 0 0) = some res := by rw [← h]; show _ = some (0, up S1 186 0 (if v = 0 then 0 else 1)); rw [if_pos cz]
        refine lv_lconst hx hb dL_teach_15 rfl ?_
        refine R_last (v := 0) C hd1 dL_teach_16 (fun H2 locs2 hd2 => ?_)
        refine lv_goto (tgt := 24) hx hb dL_teach_17 (by decide) ?_
        refine lv_iconst hx hb dL_teach_24 rfl ?_
        exact R_iret C hr hd2 h dL_teach_25
      · have h : some (0, up S1 186 0 1) = some res := by rw [← h]; show _ = some (0, up S1 186 0 (if v = 0 then 0 else 1)); rw [if_neg cz]
        refine lv_lconst hx hb dL_teach_11 rfl ?_
        refine lv_goto (tgt := 16) hx hb dL_teach_12 (by decide) ?_
        refine R_last (v := 1) C hd1 dL_teach_16 (fun H2 locs2 hd2 => ?_)
        refine lv_goto (tgt := 24) hx hb dL_teach_17 (by decide) ?_
        refine lv_iconst hx hb dL_teach_24 rfl ?_
        exact R_iret C hr hd2 h dL_teach_25
set_option maxRecDepth 20000 in
theorem ccL_teach (l : Launch) (G : Gt) (hst : l.stackTraces = false) {a1 : Int32} {a2 : Int32} {S : St} {res : Int32 × St} (h : fC (some 1) none true (fX9_teach a1 a2 S) = some res) : Met l yL_teach (wmH yL_teach cL_teach 5 (some .int) [(0, 17, 20, 18)]) (rmL 8 2 12) (PcW G S [.ref (gR G 0), .int a1, .int a2, .ref (gR G 186)]) (QI G res.1 res.2) 2 12 (Ab G) := by
  refine Mt_ofWH (cc := cL_teach) (maxL := 5) (ret := (some .int)) (hh := [(0, 17, 20, 18)]) (by decide) rfl ?_
  intro p e s m args below meth c s₁ B hml ht hv
  obtain ⟨rfl, hK, hP⟩ := hv
  have C : Cx p s m _ meth c cL_teach 5 RL G := ⟨⟨B.exec, B.bytes, hml, findClass_of_methodNamed B.named, fun w hw => atoms_spec (ws := wmH yL_teach cL_teach 5 (some .int) [(0, 17, 20, 18)]) B.pre w (List.mem_cons_of_mem _ hw)⟩, B.notSynchronized, hK⟩
  have hl := lv_entry ([.ref (gR G 0), .int a1, .int a2, .ref (gR G 186)]) (n := 5) (Nat.le_of_ble_eq_true rfl)
  rw [lg_entry_eq]
  generalize (lg_sl ([.ref (gR G 0), .int a1, .int a2, .ref (gR G 186)]) ++ List.replicate (5 - (lg_sl ([.ref (gR G 0), .int a1, .int a2, .ref (gR G 186)])).length) Slot.unset).toArray = ls at hl ⊢
  exact sL_teach C B.returns ht hst ⟨hP, va_S.rf⟩ hl h
theorem dL_load_0 : decode cL_load 0 = .ok (.aload 4, 2) := by decide +kernel
theorem dL_load_2 : decode cL_load 2 = .ok (.iconst 0, 1) := by decide +kernel
theorem dL_load_3 : decode cL_load 3 = .ok (.aload_n 0, 1) := by decide +kernel
theorem dL_load_4 : decode cL_load 4 = .ok (.iload_n 1, 1) := by decide +kernel
theorem dL_load_5 : decode cL_load 5 = .ok (.iload_n 2, 1) := by decide +kernel
theorem dL_load_6 : decode cL_load 6 = .ok (.iload_n 3, 1) := by decide +kernel
theorem dL_load_7 : decode cL_load 7 = .ok (.invokevirtual 40, 3) := by decide +kernel
theorem dL_load_10 : decode cL_load 10 = .ok (.i2l, 1) := by decide +kernel
theorem dL_load_11 : decode cL_load 11 = .ok (.lastore, 1) := by decide +kernel
theorem dL_load_12 : decode cL_load 12 = .ok (.goto 7, 3) := by decide +kernel
theorem dL_load_15 : decode cL_load 15 = .ok (.astore 5, 2) := by decide +kernel
theorem dL_load_17 : decode cL_load 17 = .ok (.iconst 1, 1) := by decide +kernel
theorem dL_load_18 : decode cL_load 18 = .ok (.ireturn, 1) := by decide +kernel
theorem dL_load_19 : decode cL_load 19 = .ok (.iconst 0, 1) := by decide +kernel
theorem dL_load_20 : decode cL_load 20 = .ok (.ireturn, 1) := by decide +kernel
theorem kL_40 : CV RL 40 RX9 yX9_load cX9_load 5 (some .int) 3 := ⟨wsV_gt wd906 wd907 wd908 wd1 wd909, by decide +kernel⟩
set_option maxHeartbeats 4000000 in
set_option maxRecDepth 20000 in
theorem sL_load (C : Cx p s m args meth c cL_load 6 RL G) (hr : meth.sig.returnType = some .int) (ht : c.exceptionTable.toList = tableOf [(0, 12, 15, 18)]) (hst : l.stackTraces = false) {a1 : Int32} {a2 : Int32} {a3 : Int32} {S : St} {res : Int32 × St} {H : Heap} {locs : List Loc} {ls : Array Slot} (hd : Dy G S s H locs) (hl : lv_has ls 6 [(0, .ref (gR G 0)), (1, .int a1), (2, .int a2), (3, .int a3), (4, .ref (gR G 186))]) (h : fC (some 1) none false (fX9_load a1 a2 a3 S) = some res) : W p l e (rmL 8 2 12) s m args below meth c H locs 0 0 (MQ below (QI G res.1 res.2) args s 2 12 (Ab G)) (F0 m 0 ls []) := by
  have hx := C.1.1
  have hb := C.1.2.1
  cases hf : fX9_load a1 a2 a3 S with
  | none => rw [hf] at h; cases h
  | some w0 =>
    obtain ⟨w, S1⟩ := w0
    rw [hf] at h
    refine lv_aload hx hb dL_load_0 (lv_at hl 4 rfl) ?_
    refine lv_iconst hx hb dL_load_2 rfl ?_
    refine lv_aload_n hx hb dL_load_3 rfl (lv_at hl 0 rfl) ?_
    refine lv_iload_n hx hb dL_load_4 rfl (lv_at hl 1 rfl) ?_
    refine lv_iload_n hx hb dL_load_5 rfl (lv_at hl 2 rfl) ?_
    refine lv_iload_n hx hb dL_load_6 rfl (lv_at hl 3 rfl) ?_
    refine R_tVc (rest := [.int 0, .ref (gR G 186)]) (As := [.int a1, .int a2, .int a3]) C hd (ccX9_load l G hst hf) kL_40 rfl (by decide) (rfl : kd 0 = 9) hl.1 ⟨by decide, by decide⟩ rfl rfl (Nat.le_of_ble_eq_true rfl) dL_load_7 ⟨by decide, by decide⟩ ?_ ?_
    · intro en hen ce q9 H1 locs1 hd1 hce hcv hcl9
      subst hen
      by_cases c1 : en = 1
      · subst c1
        refine vx_catch (own := RL) (name := nNS) C.1.2.2.2.1 [] ⟨0, 12, 15, 18⟩ [] ht (fun z hz => nomatch hz) (by decide) (by decide) (C.1.2.2.2.2 _ wd809) (C.cst 1) hce hcv hcl9 ?_
        refine lv_astore hx hb dL_load_15 hl (by decide) rfl (fun ls hl => ?_)
        refine lv_iconst hx hb dL_load_17 rfl ?_
        exact R_iret C hr hd1 h dL_load_18
      · exfalso
        exact fC_1 c1 h
    · intro v hv H1 locs1 hd1
      subst hv
      refine lv_i2l hx hb dL_load_10 rfl ?_
      refine R_last (v := v) C hd1 dL_load_11 (fun H2 locs2 hd2 => ?_)
      refine lv_goto (tgt := 19) hx hb dL_load_12 (by decide) ?_
      refine lv_iconst hx hb dL_load_19 rfl ?_
      exact R_iret C hr hd2 h dL_load_20
set_option maxRecDepth 20000 in
theorem ccL_load (l : Launch) (G : Gt) (hst : l.stackTraces = false) {a1 : Int32} {a2 : Int32} {a3 : Int32} {S : St} {res : Int32 × St} (h : fC (some 1) none false (fX9_load a1 a2 a3 S) = some res) : Met l yL_load (wmH yL_load cL_load 6 (some .int) [(0, 12, 15, 18)]) (rmL 8 2 12) (PcW G S [.ref (gR G 0), .int a1, .int a2, .int a3, .ref (gR G 186)]) (QI G res.1 res.2) 2 12 (Ab G) := by
  refine Mt_ofWH (cc := cL_load) (maxL := 6) (ret := (some .int)) (hh := [(0, 12, 15, 18)]) (by decide) rfl ?_
  intro p e s m args below meth c s₁ B hml ht hv
  obtain ⟨rfl, hK, hP⟩ := hv
  have C : Cx p s m _ meth c cL_load 6 RL G := ⟨⟨B.exec, B.bytes, hml, findClass_of_methodNamed B.named, fun w hw => atoms_spec (ws := wmH yL_load cL_load 6 (some .int) [(0, 12, 15, 18)]) B.pre w (List.mem_cons_of_mem _ hw)⟩, B.notSynchronized, hK⟩
  have hl := lv_entry ([.ref (gR G 0), .int a1, .int a2, .int a3, .ref (gR G 186)]) (n := 6) (Nat.le_of_ble_eq_true rfl)
  rw [lg_entry_eq]
  generalize (lg_sl ([.ref (gR G 0), .int a1, .int a2, .int a3, .ref (gR G 186)]) ++ List.replicate (6 - (lg_sl ([.ref (gR G 0), .int a1, .int a2, .int a3, .ref (gR G 186)])).length) Slot.unset).toArray = ls at hl ⊢
  exact sL_load C B.returns ht hst ⟨hP, va_S.rf⟩ hl h
theorem dL_change_0 : decode cL_change 0 = .ok (.aload 4, 2) := by decide +kernel
theorem dL_change_2 : decode cL_change 2 = .ok (.iconst 0, 1) := by decide +kernel
theorem dL_change_3 : decode cL_change 3 = .ok (.aload_n 0, 1) := by decide +kernel
theorem dL_change_4 : decode cL_change 4 = .ok (.iload_n 1, 1) := by decide +kernel
theorem dL_change_5 : decode cL_change 5 = .ok (.iload_n 2, 1) := by decide +kernel
theorem dL_change_6 : decode cL_change 6 = .ok (.iload_n 3, 1) := by decide +kernel
theorem dL_change_7 : decode cL_change 7 = .ok (.invokevirtual 44, 3) := by decide +kernel
theorem dL_change_10 : decode cL_change 10 = .ok (.i2l, 1) := by decide +kernel
theorem dL_change_11 : decode cL_change 11 = .ok (.lastore, 1) := by decide +kernel
theorem dL_change_12 : decode cL_change 12 = .ok (.goto 7, 3) := by decide +kernel
theorem dL_change_15 : decode cL_change 15 = .ok (.astore 5, 2) := by decide +kernel
theorem dL_change_17 : decode cL_change 17 = .ok (.iconst 1, 1) := by decide +kernel
theorem dL_change_18 : decode cL_change 18 = .ok (.ireturn, 1) := by decide +kernel
theorem dL_change_19 : decode cL_change 19 = .ok (.iconst 0, 1) := by decide +kernel
theorem dL_change_20 : decode cL_change 20 = .ok (.ireturn, 1) := by decide +kernel
theorem kL_44 : CV RL 44 RX9 yX9_change cX9_change 6 (some .int) 3 := ⟨wsV_gt wd914 wd915 wd916 wd1 wd917, by decide +kernel⟩
set_option maxHeartbeats 4000000 in
set_option maxRecDepth 20000 in
theorem sL_change (C : Cx p s m args meth c cL_change 6 RL G) (hr : meth.sig.returnType = some .int) (ht : c.exceptionTable.toList = tableOf [(0, 12, 15, 18)]) (hst : l.stackTraces = false) {a1 : Int32} {a2 : Int32} {a3 : Int32} {S : St} {res : Int32 × St} {H : Heap} {locs : List Loc} {ls : Array Slot} (hd : Dy G S s H locs) (hl : lv_has ls 6 [(0, .ref (gR G 0)), (1, .int a1), (2, .int a2), (3, .int a3), (4, .ref (gR G 186))]) (h : fC (some 1) none false (fX9_change a1 a2 a3 S) = some res) : W p l e (rmL 8 2 12) s m args below meth c H locs 0 0 (MQ below (QI G res.1 res.2) args s 2 12 (Ab G)) (F0 m 0 ls []) := by
  have hx := C.1.1
  have hb := C.1.2.1
  cases hf : fX9_change a1 a2 a3 S with
  | none => rw [hf] at h; cases h
  | some w0 =>
    obtain ⟨w, S1⟩ := w0
    rw [hf] at h
    refine lv_aload hx hb dL_change_0 (lv_at hl 4 rfl) ?_
    refine lv_iconst hx hb dL_change_2 rfl ?_
    refine lv_aload_n hx hb dL_change_3 rfl (lv_at hl 0 rfl) ?_
    refine lv_iload_n hx hb dL_change_4 rfl (lv_at hl 1 rfl) ?_
    refine lv_iload_n hx hb dL_change_5 rfl (lv_at hl 2 rfl) ?_
    refine lv_iload_n hx hb dL_change_6 rfl (lv_at hl 3 rfl) ?_
    refine R_tVc (rest := [.int 0, .ref (gR G 186)]) (As := [.int a1, .int a2, .int a3]) C hd (ccX9_change l G hst hf) kL_44 rfl (by decide) (rfl : kd 0 = 9) hl.1 ⟨by decide, by decide⟩ rfl rfl (Nat.le_of_ble_eq_true rfl) dL_change_7 ⟨by decide, by decide⟩ ?_ ?_
    · intro en hen ce q9 H1 locs1 hd1 hce hcv hcl9
      subst hen
      by_cases c1 : en = 1
      · subst c1
        refine vx_catch (own := RL) (name := nNS) C.1.2.2.2.1 [] ⟨0, 12, 15, 18⟩ [] ht (fun z hz => nomatch hz) (by decide) (by decide) (C.1.2.2.2.2 _ wd809) (C.cst 1) hce hcv hcl9 ?_
        refine lv_astore hx hb dL_change_15 hl (by decide) rfl (fun ls hl => ?_)
        refine lv_iconst hx hb dL_change_17 rfl ?_
        exact R_iret C hr hd1 h dL_change_18
      · exfalso
        exact fC_1 c1 h
    · intro v hv H1 locs1 hd1
      subst hv
      refine lv_i2l hx hb dL_change_10 rfl ?_
      refine R_last (v := v) C hd1 dL_change_11 (fun H2 locs2 hd2 => ?_)
      refine lv_goto (tgt := 19) hx hb dL_change_12 (by decide) ?_
      refine lv_iconst hx hb dL_change_19 rfl ?_
      exact R_iret C hr hd2 h dL_change_20
set_option maxRecDepth 20000 in
theorem ccL_change (l : Launch) (G : Gt) (hst : l.stackTraces = false) {a1 : Int32} {a2 : Int32} {a3 : Int32} {S : St} {res : Int32 × St} (h : fC (some 1) none false (fX9_change a1 a2 a3 S) = some res) : Met l yL_change (wmH yL_change cL_change 6 (some .int) [(0, 12, 15, 18)]) (rmL 8 2 12) (PcW G S [.ref (gR G 0), .int a1, .int a2, .int a3, .ref (gR G 186)]) (QI G res.1 res.2) 2 12 (Ab G) := by
  refine Mt_ofWH (cc := cL_change) (maxL := 6) (ret := (some .int)) (hh := [(0, 12, 15, 18)]) (by decide) rfl ?_
  intro p e s m args below meth c s₁ B hml ht hv
  obtain ⟨rfl, hK, hP⟩ := hv
  have C : Cx p s m _ meth c cL_change 6 RL G := ⟨⟨B.exec, B.bytes, hml, findClass_of_methodNamed B.named, fun w hw => atoms_spec (ws := wmH yL_change cL_change 6 (some .int) [(0, 12, 15, 18)]) B.pre w (List.mem_cons_of_mem _ hw)⟩, B.notSynchronized, hK⟩
  have hl := lv_entry ([.ref (gR G 0), .int a1, .int a2, .int a3, .ref (gR G 186)]) (n := 6) (Nat.le_of_ble_eq_true rfl)
  rw [lg_entry_eq]
  generalize (lg_sl ([.ref (gR G 0), .int a1, .int a2, .int a3, .ref (gR G 186)]) ++ List.replicate (6 - (lg_sl ([.ref (gR G 0), .int a1, .int a2, .int a3, .ref (gR G 186)])).length) Slot.unset).toArray = ls at hl ⊢
  exact sL_change C B.returns ht hst ⟨hP, va_S.rf⟩ hl h
theorem dL_sell_0 : decode cL_sell 0 = .ok (.aload_n 3, 1) := by decide +kernel
theorem dL_sell_1 : decode cL_sell 1 = .ok (.iconst 0, 1) := by decide +kernel
theorem dL_sell_2 : decode cL_sell 2 = .ok (.aload_n 0, 1) := by decide +kernel
theorem dL_sell_3 : decode cL_sell 3 = .ok (.iload_n 1, 1) := by decide +kernel
theorem dL_sell_4 : decode cL_sell 4 = .ok (.iload_n 2, 1) := by decide +kernel
theorem dL_sell_5 : decode cL_sell 5 = .ok (.invokevirtual 47, 3) := by decide +kernel
theorem dL_sell_8 : decode cL_sell 8 = .ok (.ifCond .eq 7, 3) := by decide +kernel
theorem dL_sell_11 : decode cL_sell 11 = .ok (.lconst 1, 1) := by decide +kernel
theorem dL_sell_12 : decode cL_sell 12 = .ok (.goto 4, 3) := by decide +kernel
theorem dL_sell_15 : decode cL_sell 15 = .ok (.lconst 0, 1) := by decide +kernel
theorem dL_sell_16 : decode cL_sell 16 = .ok (.lastore, 1) := by decide +kernel
theorem dL_sell_17 : decode cL_sell 17 = .ok (.goto 7, 3) := by decide +kernel
theorem dL_sell_20 : decode cL_sell 20 = .ok (.astore 4, 2) := by decide +kernel
theorem dL_sell_22 : decode cL_sell 22 = .ok (.iconst 1, 1) := by decide +kernel
theorem dL_sell_23 : decode cL_sell 23 = .ok (.ireturn, 1) := by decide +kernel
theorem dL_sell_24 : decode cL_sell 24 = .ok (.iconst 0, 1) := by decide +kernel
theorem dL_sell_25 : decode cL_sell 25 = .ok (.ireturn, 1) := by decide +kernel
theorem kL_47 : CV RL 47 RX9 yX9_sell cX9_sell 3 (some .boolean) 2 := ⟨wsV_gt wd921 wd922 wd923 wd1 wd924, by decide +kernel⟩
set_option maxHeartbeats 4000000 in
set_option maxRecDepth 20000 in
theorem sL_sell (C : Cx p s m args meth c cL_sell 5 RL G) (hr : meth.sig.returnType = some .int) (ht : c.exceptionTable.toList = tableOf [(0, 17, 20, 18)]) (hst : l.stackTraces = false) {a1 : Int32} {a2 : Int32} {S : St} {res : Int32 × St} {H : Heap} {locs : List Loc} {ls : Array Slot} (hd : Dy G S s H locs) (hl : lv_has ls 5 [(0, .ref (gR G 0)), (1, .int a1), (2, .int a2), (3, .ref (gR G 186))]) (h : fC (some 1) none true (fX9_sell a1 a2 S) = some res) : W p l e (rmL 8 2 12) s m args below meth c H locs 0 0 (MQ below (QI G res.1 res.2) args s 2 12 (Ab G)) (F0 m 0 ls []) := by
  have hx := C.1.1
  have hb := C.1.2.1
  cases hf : fX9_sell a1 a2 S with
  | none => rw [hf] at h; cases h
  | some w0 =>
    obtain ⟨w, S1⟩ := w0
    rw [hf] at h
    refine lv_aload_n hx hb dL_sell_0 rfl (lv_at hl 3 rfl) ?_
    refine lv_iconst hx hb dL_sell_1 rfl ?_
    refine lv_aload_n hx hb dL_sell_2 rfl (lv_at hl 0 rfl) ?_
    refine lv_iload_n hx hb dL_sell_3 rfl (lv_at hl 1 rfl) ?_
    refine lv_iload_n hx hb dL_sell_4 rfl (lv_at hl 2 rfl) ?_
    refine R_tVc (rest := [.int 0, .ref (gR G 186)]) (As := [.int a1, .int a2]) C hd (ccX9_sell l G hst hf) kL_47 rfl (by decide) (rfl : kd 0 = 9) hl.1 ⟨by decide, by decide⟩ rfl rfl (Nat.le_of_ble_eq_true rfl) dL_sell_5 ⟨by decide, by decide⟩ ?_ ?_
    · intro en hen ce q9 H1 locs1 hd1 hce hcv hcl9
      subst hen
      by_cases c1 : en = 1
      · subst c1
        refine vx_catch (own := RL) (name := nNS) C.1.2.2.2.1 [] ⟨0, 17, 20, 18⟩ [] ht (fun z hz => nomatch hz) (by decide) (by decide) (C.1.2.2.2.2 _ wd809) (C.cst 1) hce hcv hcl9 ?_
        refine lv_astore hx hb dL_sell_20 hl (by decide) rfl (fun ls hl => ?_)
        refine lv_iconst hx hb dL_sell_22 rfl ?_
        exact R_iret C hr hd1 h dL_sell_23
      · exfalso
        exact fC_1 c1 h
    · intro v hv H1 locs1 hd1
      subst hv
      refine lv_if_eq (tgt := 15) hx hb dL_sell_8 (by decide) (fun cz => ?_) (fun cz => ?_)
      · have h : some (0, up S1 186 0 0) = some res := by rw [← h]; show _ = some (0, up S1 186 0 (if v = 0 then 0 else 1)); rw [if_pos cz]
        refine lv_lconst hx hb dL_sell_15 rfl ?_
        refine R_last (v := 0) C hd1 dL_sell_16 (fun H2 locs2 hd2 => ?_)
        refine lv_goto (tgt := 24) hx hb dL_sell_17 (by decide) ?_
        refine lv_iconst hx hb dL_sell_24 rfl ?_
        exact R_iret C hr hd2 h dL_sell_25
      · have h : some (0, up S1 186 0 1) = some res := by rw [← h]; show _ = some (0, up S1 186 0 (if v = 0 then 0 else 1)); rw [if_neg cz]
        refine lv_lconst hx hb dL_sell_11 rfl ?_
        refine lv_goto (tgt := 16) hx hb dL_sell_12 (by decide) ?_
        refine R_last (v := 1) C hd1 dL_sell_16 (fun H2 locs2 hd2 => ?_)
        refine lv_goto (tgt := 24) hx hb dL_sell_17 (by decide) ?_
        refine lv_iconst hx hb dL_sell_24 rfl ?_
        exact R_iret C hr hd2 h dL_sell_25
set_option maxRecDepth 20000 in
theorem ccL_sell (l : Launch) (G : Gt) (hst : l.stackTraces = false) {a1 : Int32} {a2 : Int32} {S : St} {res : Int32 × St} (h : fC (some 1) none true (fX9_sell a1 a2 S) = some res) : Met l yL_sell (wmH yL_sell cL_sell 5 (some .int) [(0, 17, 20, 18)]) (rmL 8 2 12) (PcW G S [.ref (gR G 0), .int a1, .int a2, .ref (gR G 186)]) (QI G res.1 res.2) 2 12 (Ab G) := by
  refine Mt_ofWH (cc := cL_sell) (maxL := 5) (ret := (some .int)) (hh := [(0, 17, 20, 18)]) (by decide) rfl ?_
  intro p e s m args below meth c s₁ B hml ht hv
  obtain ⟨rfl, hK, hP⟩ := hv
  have C : Cx p s m _ meth c cL_sell 5 RL G := ⟨⟨B.exec, B.bytes, hml, findClass_of_methodNamed B.named, fun w hw => atoms_spec (ws := wmH yL_sell cL_sell 5 (some .int) [(0, 17, 20, 18)]) B.pre w (List.mem_cons_of_mem _ hw)⟩, B.notSynchronized, hK⟩
  have hl := lv_entry ([.ref (gR G 0), .int a1, .int a2, .ref (gR G 186)]) (n := 5) (Nat.le_of_ble_eq_true rfl)
  rw [lg_entry_eq]
  generalize (lg_sl ([.ref (gR G 0), .int a1, .int a2, .ref (gR G 186)]) ++ List.replicate (5 - (lg_sl ([.ref (gR G 0), .int a1, .int a2, .ref (gR G 186)])).length) Slot.unset).toArray = ls at hl ⊢
  exact sL_sell C B.returns ht hst ⟨hP, va_S.rf⟩ hl h
theorem dL_sung_0 : decode cL_sung 0 = .ok (.aload_n 3, 1) := by decide +kernel
theorem dL_sung_1 : decode cL_sung 1 = .ok (.iconst 0, 1) := by decide +kernel
theorem dL_sung_2 : decode cL_sung 2 = .ok (.aload_n 0, 1) := by decide +kernel
theorem dL_sung_3 : decode cL_sung 3 = .ok (.iload_n 1, 1) := by decide +kernel
theorem dL_sung_4 : decode cL_sung 4 = .ok (.iload_n 2, 1) := by decide +kernel
theorem dL_sung_5 : decode cL_sung 5 = .ok (.invokevirtual 50, 3) := by decide +kernel
theorem dL_sung_8 : decode cL_sung 8 = .ok (.i2l, 1) := by decide +kernel
theorem dL_sung_9 : decode cL_sung 9 = .ok (.lastore, 1) := by decide +kernel
theorem dL_sung_10 : decode cL_sung 10 = .ok (.goto 11, 3) := by decide +kernel
theorem dL_sung_13 : decode cL_sung 13 = .ok (.astore 4, 2) := by decide +kernel
theorem dL_sung_15 : decode cL_sung 15 = .ok (.iconst 1, 1) := by decide +kernel
theorem dL_sung_16 : decode cL_sung 16 = .ok (.ireturn, 1) := by decide +kernel
theorem dL_sung_17 : decode cL_sung 17 = .ok (.astore 4, 2) := by decide +kernel
theorem dL_sung_19 : decode cL_sung 19 = .ok (.iconst 2, 1) := by decide +kernel
theorem dL_sung_20 : decode cL_sung 20 = .ok (.ireturn, 1) := by decide +kernel
theorem dL_sung_21 : decode cL_sung 21 = .ok (.iconst 0, 1) := by decide +kernel
theorem dL_sung_22 : decode cL_sung 22 = .ok (.ireturn, 1) := by decide +kernel
theorem kL_50 : CV RL 50 RX9 yX9_sung cX9_sung 3 (some .int) 2 := ⟨wsV_gt wd928 wd929 wd930 wd1 wd931, by decide +kernel⟩
set_option maxHeartbeats 4000000 in
set_option maxRecDepth 20000 in
theorem sL_sung (C : Cx p s m args meth c cL_sung 5 RL G) (hr : meth.sig.returnType = some .int) (ht : c.exceptionTable.toList = tableOf [(0, 10, 13, 18), (0, 10, 17, 13)]) (hst : l.stackTraces = false) {a1 : Int32} {a2 : Int32} {S : St} {res : Int32 × St} {H : Heap} {locs : List Loc} {ls : Array Slot} (hd : Dy G S s H locs) (hl : lv_has ls 5 [(0, .ref (gR G 0)), (1, .int a1), (2, .int a2), (3, .ref (gR G 186))]) (h : fC (some 1) (some 2) false (fX9_sung a1 a2 S) = some res) : W p l e (rmL 9 2 12) s m args below meth c H locs 0 0 (MQ below (QI G res.1 res.2) args s 2 12 (Ab G)) (F0 m 0 ls []) := by
  have hx := C.1.1
  have hb := C.1.2.1
  cases hf : fX9_sung a1 a2 S with
  | none => rw [hf] at h; cases h
  | some w0 =>
    obtain ⟨w, S1⟩ := w0
    rw [hf] at h
    refine lv_aload_n hx hb dL_sung_0 rfl (lv_at hl 3 rfl) ?_
    refine lv_iconst hx hb dL_sung_1 rfl ?_
    refine lv_aload_n hx hb dL_sung_2 rfl (lv_at hl 0 rfl) ?_
    refine lv_iload_n hx hb dL_sung_3 rfl (lv_at hl 1 rfl) ?_
    refine lv_iload_n hx hb dL_sung_4 rfl (lv_at hl 2 rfl) ?_
    refine R_tVc (rest := [.int 0, .ref (gR G 186)]) (As := [.int a1, .int a2]) C hd (ccX9_sung l G hst hf) kL_50 rfl (by decide) (rfl : kd 0 = 9) hl.1 ⟨by decide, by decide⟩ rfl rfl (Nat.le_of_ble_eq_true rfl) dL_sung_5 ⟨by decide, by decide⟩ ?_ ?_
    · intro en hen ce q9 H1 locs1 hd1 hce hcv hcl9
      subst hen
      by_cases c1 : en = 1
      · subst c1
        refine vx_catch (own := RL) (name := nNS) C.1.2.2.2.1 [] ⟨0, 10, 13, 18⟩ [⟨0, 10, 17, 13⟩] ht (fun z hz => nomatch hz) (by decide) (by decide) (C.1.2.2.2.2 _ wd809) (C.cst 1) hce hcv hcl9 ?_
        refine lv_astore hx hb dL_sung_13 hl (by decide) rfl (fun ls hl => ?_)
        refine lv_iconst hx hb dL_sung_15 rfl ?_
        exact R_iret C hr hd1 h dL_sung_16
      by_cases c2 : en = 2
      · subst c2
        refine vx_catch (own := RL) (name := nIA) C.1.2.2.2.1 [⟨0, 10, 13, 18⟩] ⟨0, 10, 17, 13⟩ [] ht (fun z hz => by cases List.mem_singleton.mp hz; exact Or.inr ⟨by decide, nNS, C.1.2.2.2.2 _ wd809, C.ncs⟩) (by decide) (by decide) (C.1.2.2.2.2 _ wd516) (C.cst 2) hce hcv hcl9 ?_
        refine lv_astore hx hb dL_sung_17 hl (by decide) rfl (fun ls hl => ?_)
        refine lv_iconst hx hb dL_sung_19 rfl ?_
        exact R_iret C hr hd1 h dL_sung_20
      · exfalso
        exact fC_12 c1 c2 h
    · intro v hv H1 locs1 hd1
      subst hv
      refine lv_i2l hx hb dL_sung_8 rfl ?_
      refine R_last (v := v) C hd1 dL_sung_9 (fun H2 locs2 hd2 => ?_)
      refine lv_goto (tgt := 21) hx hb dL_sung_10 (by decide) ?_
      refine lv_iconst hx hb dL_sung_21 rfl ?_
      exact R_iret C hr hd2 h dL_sung_22
set_option maxRecDepth 20000 in
theorem ccL_sung (l : Launch) (G : Gt) (hst : l.stackTraces = false) {a1 : Int32} {a2 : Int32} {S : St} {res : Int32 × St} (h : fC (some 1) (some 2) false (fX9_sung a1 a2 S) = some res) : Met l yL_sung (wmH yL_sung cL_sung 5 (some .int) [(0, 10, 13, 18), (0, 10, 17, 13)]) (rmL 9 2 12) (PcW G S [.ref (gR G 0), .int a1, .int a2, .ref (gR G 186)]) (QI G res.1 res.2) 2 12 (Ab G) := by
  refine Mt_ofWH (cc := cL_sung) (maxL := 5) (ret := (some .int)) (hh := [(0, 10, 13, 18), (0, 10, 17, 13)]) (by decide) rfl ?_
  intro p e s m args below meth c s₁ B hml ht hv
  obtain ⟨rfl, hK, hP⟩ := hv
  have C : Cx p s m _ meth c cL_sung 5 RL G := ⟨⟨B.exec, B.bytes, hml, findClass_of_methodNamed B.named, fun w hw => atoms_spec (ws := wmH yL_sung cL_sung 5 (some .int) [(0, 10, 13, 18), (0, 10, 17, 13)]) B.pre w (List.mem_cons_of_mem _ hw)⟩, B.notSynchronized, hK⟩
  have hl := lv_entry ([.ref (gR G 0), .int a1, .int a2, .ref (gR G 186)]) (n := 5) (Nat.le_of_ble_eq_true rfl)
  rw [lg_entry_eq]
  generalize (lg_sl ([.ref (gR G 0), .int a1, .int a2, .ref (gR G 186)]) ++ List.replicate (5 - (lg_sl ([.ref (gR G 0), .int a1, .int a2, .ref (gR G 186)])).length) Slot.unset).toArray = ls at hl ⊢
  exact sL_sung C B.returns ht hst ⟨hP, va_S.rf⟩ hl h
theorem dL_learnt_0 : decode cL_learnt 0 = .ok (.aload_n 3, 1) := by decide +kernel
theorem dL_learnt_1 : decode cL_learnt 1 = .ok (.iconst 0, 1) := by decide +kernel
theorem dL_learnt_2 : decode cL_learnt 2 = .ok (.aload_n 0, 1) := by decide +kernel
theorem dL_learnt_3 : decode cL_learnt 3 = .ok (.iload_n 1, 1) := by decide +kernel
theorem dL_learnt_4 : decode cL_learnt 4 = .ok (.iload_n 2, 1) := by decide +kernel
theorem dL_learnt_5 : decode cL_learnt 5 = .ok (.invokevirtual 53, 3) := by decide +kernel
theorem dL_learnt_8 : decode cL_learnt 8 = .ok (.i2l, 1) := by decide +kernel
theorem dL_learnt_9 : decode cL_learnt 9 = .ok (.lastore, 1) := by decide +kernel
theorem dL_learnt_10 : decode cL_learnt 10 = .ok (.goto 7, 3) := by decide +kernel
theorem dL_learnt_13 : decode cL_learnt 13 = .ok (.astore 4, 2) := by decide +kernel
theorem dL_learnt_15 : decode cL_learnt 15 = .ok (.iconst 1, 1) := by decide +kernel
theorem dL_learnt_16 : decode cL_learnt 16 = .ok (.ireturn, 1) := by decide +kernel
theorem dL_learnt_17 : decode cL_learnt 17 = .ok (.iconst 0, 1) := by decide +kernel
theorem dL_learnt_18 : decode cL_learnt 18 = .ok (.ireturn, 1) := by decide +kernel
theorem kL_53 : CV RL 53 RX9 yX9_learnt cX9_learnt 3 (some .int) 2 := ⟨wsV_gt wd940 wd941 wd942 wd1 wd943, by decide +kernel⟩
set_option maxHeartbeats 4000000 in
set_option maxRecDepth 20000 in
theorem sL_learnt (C : Cx p s m args meth c cL_learnt 5 RL G) (hr : meth.sig.returnType = some .int) (ht : c.exceptionTable.toList = tableOf [(0, 10, 13, 18)]) (hst : l.stackTraces = false) {a1 : Int32} {a2 : Int32} {S : St} {res : Int32 × St} {H : Heap} {locs : List Loc} {ls : Array Slot} (hd : Dy G S s H locs) (hl : lv_has ls 5 [(0, .ref (gR G 0)), (1, .int a1), (2, .int a2), (3, .ref (gR G 186))]) (h : fC (some 1) none false (fX9_learnt a1 a2 S) = some res) : W p l e (rmL 10 2 12) s m args below meth c H locs 0 0 (MQ below (QI G res.1 res.2) args s 2 12 (Ab G)) (F0 m 0 ls []) := by
  have hx := C.1.1
  have hb := C.1.2.1
  cases hf : fX9_learnt a1 a2 S with
  | none => rw [hf] at h; cases h
  | some w0 =>
    obtain ⟨w, S1⟩ := w0
    rw [hf] at h
    refine lv_aload_n hx hb dL_learnt_0 rfl (lv_at hl 3 rfl) ?_
    refine lv_iconst hx hb dL_learnt_1 rfl ?_
    refine lv_aload_n hx hb dL_learnt_2 rfl (lv_at hl 0 rfl) ?_
    refine lv_iload_n hx hb dL_learnt_3 rfl (lv_at hl 1 rfl) ?_
    refine lv_iload_n hx hb dL_learnt_4 rfl (lv_at hl 2 rfl) ?_
    refine R_tVc (rest := [.int 0, .ref (gR G 186)]) (As := [.int a1, .int a2]) C hd (ccX9_learnt l G hst hf) kL_53 rfl (by decide) (rfl : kd 0 = 9) hl.1 ⟨by decide, by decide⟩ rfl rfl (Nat.le_of_ble_eq_true rfl) dL_learnt_5 ⟨by decide, by decide⟩ ?_ ?_
    · intro en hen ce q9 H1 locs1 hd1 hce hcv hcl9
      subst hen
      by_cases c1 : en = 1
      · subst c1
        refine vx_catch (own := RL) (name := nNS) C.1.2.2.2.1 [] ⟨0, 10, 13, 18⟩ [] ht (fun z hz => nomatch hz) (by decide) (by decide) (C.1.2.2.2.2 _ wd809) (C.cst 1) hce hcv hcl9 ?_
        refine lv_astore hx hb dL_learnt_13 hl (by decide) rfl (fun ls hl => ?_)
        refine lv_iconst hx hb dL_learnt_15 rfl ?_
        exact R_iret C hr hd1 h dL_learnt_16
      · exfalso
        exact fC_1 c1 h
    · intro v hv H1 locs1 hd1
      subst hv
      refine lv_i2l hx hb dL_learnt_8 rfl ?_
      refine R_last (v := v) C hd1 dL_learnt_9 (fun H2 locs2 hd2 => ?_)
      refine lv_goto (tgt := 17) hx hb dL_learnt_10 (by decide) ?_
      refine lv_iconst hx hb dL_learnt_17 rfl ?_
      exact R_iret C hr hd2 h dL_learnt_18
set_option maxRecDepth 20000 in
theorem ccL_learnt (l : Launch) (G : Gt) (hst : l.stackTraces = false) {a1 : Int32} {a2 : Int32} {S : St} {res : Int32 × St} (h : fC (some 1) none false (fX9_learnt a1 a2 S) = some res) : Met l yL_learnt (wmH yL_learnt cL_learnt 5 (some .int) [(0, 10, 13, 18)]) (rmL 10 2 12) (PcW G S [.ref (gR G 0), .int a1, .int a2, .ref (gR G 186)]) (QI G res.1 res.2) 2 12 (Ab G) := by
  refine Mt_ofWH (cc := cL_learnt) (maxL := 5) (ret := (some .int)) (hh := [(0, 10, 13, 18)]) (by decide) rfl ?_
  intro p e s m args below meth c s₁ B hml ht hv
  obtain ⟨rfl, hK, hP⟩ := hv
  have C : Cx p s m _ meth c cL_learnt 5 RL G := ⟨⟨B.exec, B.bytes, hml, findClass_of_methodNamed B.named, fun w hw => atoms_spec (ws := wmH yL_learnt cL_learnt 5 (some .int) [(0, 10, 13, 18)]) B.pre w (List.mem_cons_of_mem _ hw)⟩, B.notSynchronized, hK⟩
  have hl := lv_entry ([.ref (gR G 0), .int a1, .int a2, .ref (gR G 186)]) (n := 5) (Nat.le_of_ble_eq_true rfl)
  rw [lg_entry_eq]
  generalize (lg_sl ([.ref (gR G 0), .int a1, .int a2, .ref (gR G 186)]) ++ List.replicate (5 - (lg_sl ([.ref (gR G 0), .int a1, .int a2, .ref (gR G 186)])).length) Slot.unset).toArray = ls at hl ⊢
  exact sL_learnt C B.returns ht hst ⟨hP, va_S.rf⟩ hl h
theorem dL_purse_0 : decode cL_purse 0 = .ok (.aload_n 3, 1) := by decide +kernel
theorem dL_purse_1 : decode cL_purse 1 = .ok (.iconst 0, 1) := by decide +kernel
theorem dL_purse_2 : decode cL_purse 2 = .ok (.aload_n 0, 1) := by decide +kernel
theorem dL_purse_3 : decode cL_purse 3 = .ok (.iload_n 1, 1) := by decide +kernel
theorem dL_purse_4 : decode cL_purse 4 = .ok (.iload_n 2, 1) := by decide +kernel
theorem dL_purse_5 : decode cL_purse 5 = .ok (.invokevirtual 56, 3) := by decide +kernel
theorem dL_purse_8 : decode cL_purse 8 = .ok (.i2l, 1) := by decide +kernel
theorem dL_purse_9 : decode cL_purse 9 = .ok (.lastore, 1) := by decide +kernel
theorem dL_purse_10 : decode cL_purse 10 = .ok (.goto 11, 3) := by decide +kernel
theorem dL_purse_13 : decode cL_purse 13 = .ok (.astore 4, 2) := by decide +kernel
theorem dL_purse_15 : decode cL_purse 15 = .ok (.iconst 1, 1) := by decide +kernel
theorem dL_purse_16 : decode cL_purse 16 = .ok (.ireturn, 1) := by decide +kernel
theorem dL_purse_17 : decode cL_purse 17 = .ok (.astore 4, 2) := by decide +kernel
theorem dL_purse_19 : decode cL_purse 19 = .ok (.iconst 2, 1) := by decide +kernel
theorem dL_purse_20 : decode cL_purse 20 = .ok (.ireturn, 1) := by decide +kernel
theorem dL_purse_21 : decode cL_purse 21 = .ok (.iconst 0, 1) := by decide +kernel
theorem dL_purse_22 : decode cL_purse 22 = .ok (.ireturn, 1) := by decide +kernel
theorem kL_56 : CV RL 56 RX9 yX9_purse cX9_purse 3 (some .int) 2 := ⟨wsV_gt wd955 wd956 wd957 wd1 wd958, by decide +kernel⟩
set_option maxHeartbeats 4000000 in
set_option maxRecDepth 20000 in
theorem sL_purse (C : Cx p s m args meth c cL_purse 5 RL G) (hr : meth.sig.returnType = some .int) (ht : c.exceptionTable.toList = tableOf [(0, 10, 13, 18), (0, 10, 17, 13)]) (hst : l.stackTraces = false) {a1 : Int32} {a2 : Int32} {S : St} {res : Int32 × St} {H : Heap} {locs : List Loc} {ls : Array Slot} (hd : Dy G S s H locs) (hl : lv_has ls 5 [(0, .ref (gR G 0)), (1, .int a1), (2, .int a2), (3, .ref (gR G 186))]) (h : fC (some 1) (some 2) false (fX9_purse a1 a2 S) = some res) : W p l e (rmL 9 2 12) s m args below meth c H locs 0 0 (MQ below (QI G res.1 res.2) args s 2 12 (Ab G)) (F0 m 0 ls []) := by
  have hx := C.1.1
  have hb := C.1.2.1
  cases hf : fX9_purse a1 a2 S with
  | none => rw [hf] at h; cases h
  | some w0 =>
    obtain ⟨w, S1⟩ := w0
    rw [hf] at h
    refine lv_aload_n hx hb dL_purse_0 rfl (lv_at hl 3 rfl) ?_
    refine lv_iconst hx hb dL_purse_1 rfl ?_
    refine lv_aload_n hx hb dL_purse_2 rfl (lv_at hl 0 rfl) ?_
    refine lv_iload_n hx hb dL_purse_3 rfl (lv_at hl 1 rfl) ?_
    refine lv_iload_n hx hb dL_purse_4 rfl (lv_at hl 2 rfl) ?_
    refine R_tVc (rest := [.int 0, .ref (gR G 186)]) (As := [.int a1, .int a2]) C hd (ccX9_purse l G hst hf) kL_56 rfl (by decide) (rfl : kd 0 = 9) hl.1 ⟨by decide, by decide⟩ rfl rfl (Nat.le_of_ble_eq_true rfl) dL_purse_5 ⟨by decide, by decide⟩ ?_ ?_
    · intro en hen ce q9 H1 locs1 hd1 hce hcv hcl9
      subst hen
      by_cases c1 : en = 1
      · subst c1
        refine vx_catch (own := RL) (name := nNS) C.1.2.2.2.1 [] ⟨0, 10, 13, 18⟩ [⟨0, 10, 17, 13⟩] ht (fun z hz => nomatch hz) (by decide) (by decide) (C.1.2.2.2.2 _ wd809) (C.cst 1) hce hcv hcl9 ?_
        refine lv_astore hx hb dL_purse_13 hl (by decide) rfl (fun ls hl => ?_)
        refine lv_iconst hx hb dL_purse_15 rfl ?_
        exact R_iret C hr hd1 h dL_purse_16
      by_cases c2 : en = 2
      · subst c2
        refine vx_catch (own := RL) (name := nIA) C.1.2.2.2.1 [⟨0, 10, 13, 18⟩] ⟨0, 10, 17, 13⟩ [] ht (fun z hz => by cases List.mem_singleton.mp hz; exact Or.inr ⟨by decide, nNS, C.1.2.2.2.2 _ wd809, C.ncs⟩) (by decide) (by decide) (C.1.2.2.2.2 _ wd516) (C.cst 2) hce hcv hcl9 ?_
        refine lv_astore hx hb dL_purse_17 hl (by decide) rfl (fun ls hl => ?_)
        refine lv_iconst hx hb dL_purse_19 rfl ?_
        exact R_iret C hr hd1 h dL_purse_20
      · exfalso
        exact fC_12 c1 c2 h
    · intro v hv H1 locs1 hd1
      subst hv
      refine lv_i2l hx hb dL_purse_8 rfl ?_
      refine R_last (v := v) C hd1 dL_purse_9 (fun H2 locs2 hd2 => ?_)
      refine lv_goto (tgt := 21) hx hb dL_purse_10 (by decide) ?_
      refine lv_iconst hx hb dL_purse_21 rfl ?_
      exact R_iret C hr hd2 h dL_purse_22
set_option maxRecDepth 20000 in
theorem ccL_purse (l : Launch) (G : Gt) (hst : l.stackTraces = false) {a1 : Int32} {a2 : Int32} {S : St} {res : Int32 × St} (h : fC (some 1) (some 2) false (fX9_purse a1 a2 S) = some res) : Met l yL_purse (wmH yL_purse cL_purse 5 (some .int) [(0, 10, 13, 18), (0, 10, 17, 13)]) (rmL 9 2 12) (PcW G S [.ref (gR G 0), .int a1, .int a2, .ref (gR G 186)]) (QI G res.1 res.2) 2 12 (Ab G) := by
  refine Mt_ofWH (cc := cL_purse) (maxL := 5) (ret := (some .int)) (hh := [(0, 10, 13, 18), (0, 10, 17, 13)]) (by decide) rfl ?_
  intro p e s m args below meth c s₁ B hml ht hv
  obtain ⟨rfl, hK, hP⟩ := hv
  have C : Cx p s m _ meth c cL_purse 5 RL G := ⟨⟨B.exec, B.bytes, hml, findClass_of_methodNamed B.named, fun w hw => atoms_spec (ws := wmH yL_purse cL_purse 5 (some .int) [(0, 10, 13, 18), (0, 10, 17, 13)]) B.pre w (List.mem_cons_of_mem _ hw)⟩, B.notSynchronized, hK⟩
  have hl := lv_entry ([.ref (gR G 0), .int a1, .int a2, .ref (gR G 186)]) (n := 5) (Nat.le_of_ble_eq_true rfl)
  rw [lg_entry_eq]
  generalize (lg_sl ([.ref (gR G 0), .int a1, .int a2, .ref (gR G 186)]) ++ List.replicate (5 - (lg_sl ([.ref (gR G 0), .int a1, .int a2, .ref (gR G 186)])).length) Slot.unset).toArray = ls at hl ⊢
  exact sL_purse C B.returns ht hst ⟨hP, va_S.rf⟩ hl h
theorem dL_trespasses_0 : decode cL_trespasses 0 = .ok (.aload 4, 2) := by decide +kernel
theorem dL_trespasses_2 : decode cL_trespasses 2 = .ok (.iconst 0, 1) := by decide +kernel
theorem dL_trespasses_3 : decode cL_trespasses 3 = .ok (.aload_n 0, 1) := by decide +kernel
theorem dL_trespasses_4 : decode cL_trespasses 4 = .ok (.iload_n 1, 1) := by decide +kernel
theorem dL_trespasses_5 : decode cL_trespasses 5 = .ok (.iload_n 2, 1) := by decide +kernel
theorem dL_trespasses_6 : decode cL_trespasses 6 = .ok (.iload_n 3, 1) := by decide +kernel
theorem dL_trespasses_7 : decode cL_trespasses 7 = .ok (.invokevirtual 59, 3) := by decide +kernel
theorem dL_trespasses_10 : decode cL_trespasses 10 = .ok (.i2l, 1) := by decide +kernel
theorem dL_trespasses_11 : decode cL_trespasses 11 = .ok (.lastore, 1) := by decide +kernel
theorem dL_trespasses_12 : decode cL_trespasses 12 = .ok (.goto 11, 3) := by decide +kernel
theorem dL_trespasses_15 : decode cL_trespasses 15 = .ok (.astore 5, 2) := by decide +kernel
theorem dL_trespasses_17 : decode cL_trespasses 17 = .ok (.iconst 1, 1) := by decide +kernel
theorem dL_trespasses_18 : decode cL_trespasses 18 = .ok (.ireturn, 1) := by decide +kernel
theorem dL_trespasses_19 : decode cL_trespasses 19 = .ok (.astore 5, 2) := by decide +kernel
theorem dL_trespasses_21 : decode cL_trespasses 21 = .ok (.iconst 2, 1) := by decide +kernel
theorem dL_trespasses_22 : decode cL_trespasses 22 = .ok (.ireturn, 1) := by decide +kernel
theorem dL_trespasses_23 : decode cL_trespasses 23 = .ok (.iconst 0, 1) := by decide +kernel
theorem dL_trespasses_24 : decode cL_trespasses 24 = .ok (.ireturn, 1) := by decide +kernel
theorem kL_59 : CV RL 59 RX9 yX9_trespasses cX9_trespasses 4 (some .int) 3 := ⟨wsV_gt wd962 wd963 wd964 wd1 wd965, by decide +kernel⟩
set_option maxHeartbeats 4000000 in
set_option maxRecDepth 20000 in
theorem sL_trespasses (C : Cx p s m args meth c cL_trespasses 6 RL G) (hr : meth.sig.returnType = some .int) (ht : c.exceptionTable.toList = tableOf [(0, 12, 15, 18), (0, 12, 19, 13)]) (hst : l.stackTraces = false) {a1 : Int32} {a2 : Int32} {a3 : Int32} {S : St} {res : Int32 × St} {H : Heap} {locs : List Loc} {ls : Array Slot} (hd : Dy G S s H locs) (hl : lv_has ls 6 [(0, .ref (gR G 0)), (1, .int a1), (2, .int a2), (3, .int a3), (4, .ref (gR G 186))]) (h : fC (some 1) (some 2) false (fX9_trespasses a1 a2 a3 S) = some res) : W p l e (rmL 9 3 18) s m args below meth c H locs 0 0 (MQ below (QI G res.1 res.2) args s 3 18 (Ab G)) (F0 m 0 ls []) := by
  have hx := C.1.1
  have hb := C.1.2.1
  cases hf : fX9_trespasses a1 a2 a3 S with
  | none => rw [hf] at h; cases h
  | some w0 =>
    obtain ⟨w, S1⟩ := w0
    rw [hf] at h
    refine lv_aload hx hb dL_trespasses_0 (lv_at hl 4 rfl) ?_
    refine lv_iconst hx hb dL_trespasses_2 rfl ?_
    refine lv_aload_n hx hb dL_trespasses_3 rfl (lv_at hl 0 rfl) ?_
    refine lv_iload_n hx hb dL_trespasses_4 rfl (lv_at hl 1 rfl) ?_
    refine lv_iload_n hx hb dL_trespasses_5 rfl (lv_at hl 2 rfl) ?_
    refine lv_iload_n hx hb dL_trespasses_6 rfl (lv_at hl 3 rfl) ?_
    refine R_tVc (rest := [.int 0, .ref (gR G 186)]) (As := [.int a1, .int a2, .int a3]) C hd (ccX9_trespasses l G hst hf) kL_59 rfl (by decide) (rfl : kd 0 = 9) hl.1 ⟨by decide, by decide⟩ rfl rfl (Nat.le_of_ble_eq_true rfl) dL_trespasses_7 ⟨by decide, by decide⟩ ?_ ?_
    · intro en hen ce q9 H1 locs1 hd1 hce hcv hcl9
      subst hen
      by_cases c1 : en = 1
      · subst c1
        refine vx_catch (own := RL) (name := nNS) C.1.2.2.2.1 [] ⟨0, 12, 15, 18⟩ [⟨0, 12, 19, 13⟩] ht (fun z hz => nomatch hz) (by decide) (by decide) (C.1.2.2.2.2 _ wd809) (C.cst 1) hce hcv hcl9 ?_
        refine lv_astore hx hb dL_trespasses_15 hl (by decide) rfl (fun ls hl => ?_)
        refine lv_iconst hx hb dL_trespasses_17 rfl ?_
        exact R_iret C hr hd1 h dL_trespasses_18
      by_cases c2 : en = 2
      · subst c2
        refine vx_catch (own := RL) (name := nIA) C.1.2.2.2.1 [⟨0, 12, 15, 18⟩] ⟨0, 12, 19, 13⟩ [] ht (fun z hz => by cases List.mem_singleton.mp hz; exact Or.inr ⟨by decide, nNS, C.1.2.2.2.2 _ wd809, C.ncs⟩) (by decide) (by decide) (C.1.2.2.2.2 _ wd516) (C.cst 2) hce hcv hcl9 ?_
        refine lv_astore hx hb dL_trespasses_19 hl (by decide) rfl (fun ls hl => ?_)
        refine lv_iconst hx hb dL_trespasses_21 rfl ?_
        exact R_iret C hr hd1 h dL_trespasses_22
      · exfalso
        exact fC_12 c1 c2 h
    · intro v hv H1 locs1 hd1
      subst hv
      refine lv_i2l hx hb dL_trespasses_10 rfl ?_
      refine R_last (v := v) C hd1 dL_trespasses_11 (fun H2 locs2 hd2 => ?_)
      refine lv_goto (tgt := 23) hx hb dL_trespasses_12 (by decide) ?_
      refine lv_iconst hx hb dL_trespasses_23 rfl ?_
      exact R_iret C hr hd2 h dL_trespasses_24
set_option maxRecDepth 20000 in
theorem ccL_trespasses (l : Launch) (G : Gt) (hst : l.stackTraces = false) {a1 : Int32} {a2 : Int32} {a3 : Int32} {S : St} {res : Int32 × St} (h : fC (some 1) (some 2) false (fX9_trespasses a1 a2 a3 S) = some res) : Met l yL_trespasses (wmH yL_trespasses cL_trespasses 6 (some .int) [(0, 12, 15, 18), (0, 12, 19, 13)]) (rmL 9 3 18) (PcW G S [.ref (gR G 0), .int a1, .int a2, .int a3, .ref (gR G 186)]) (QI G res.1 res.2) 3 18 (Ab G) := by
  refine Mt_ofWH (cc := cL_trespasses) (maxL := 6) (ret := (some .int)) (hh := [(0, 12, 15, 18), (0, 12, 19, 13)]) (by decide) rfl ?_
  intro p e s m args below meth c s₁ B hml ht hv
  obtain ⟨rfl, hK, hP⟩ := hv
  have C : Cx p s m _ meth c cL_trespasses 6 RL G := ⟨⟨B.exec, B.bytes, hml, findClass_of_methodNamed B.named, fun w hw => atoms_spec (ws := wmH yL_trespasses cL_trespasses 6 (some .int) [(0, 12, 15, 18), (0, 12, 19, 13)]) B.pre w (List.mem_cons_of_mem _ hw)⟩, B.notSynchronized, hK⟩
  have hl := lv_entry ([.ref (gR G 0), .int a1, .int a2, .int a3, .ref (gR G 186)]) (n := 6) (Nat.le_of_ble_eq_true rfl)
  rw [lg_entry_eq]
  generalize (lg_sl ([.ref (gR G 0), .int a1, .int a2, .int a3, .ref (gR G 186)]) ++ List.replicate (6 - (lg_sl ([.ref (gR G 0), .int a1, .int a2, .int a3, .ref (gR G 186)])).length) Slot.unset).toArray = ls at hl ⊢
  exact sL_trespasses C B.returns ht hst ⟨hP, va_S.rf⟩ hl h
theorem dL_allKnow_0 : decode cL_allKnow 0 = .ok (.aload_n 2, 1) := by decide +kernel
theorem dL_allKnow_1 : decode cL_allKnow 1 = .ok (.iconst 0, 1) := by decide +kernel
theorem dL_allKnow_2 : decode cL_allKnow 2 = .ok (.aload_n 0, 1) := by decide +kernel
theorem dL_allKnow_3 : decode cL_allKnow 3 = .ok (.iload_n 1, 1) := by decide +kernel
theorem dL_allKnow_4 : decode cL_allKnow 4 = .ok (.invokevirtual 62, 3) := by decide +kernel
theorem dL_allKnow_7 : decode cL_allKnow 7 = .ok (.i2l, 1) := by decide +kernel
theorem dL_allKnow_8 : decode cL_allKnow 8 = .ok (.lastore, 1) := by decide +kernel
theorem dL_allKnow_9 : decode cL_allKnow 9 = .ok (.goto 6, 3) := by decide +kernel
theorem dL_allKnow_12 : decode cL_allKnow 12 = .ok (.astore_n 3, 1) := by decide +kernel
theorem dL_allKnow_13 : decode cL_allKnow 13 = .ok (.iconst 1, 1) := by decide +kernel
theorem dL_allKnow_14 : decode cL_allKnow 14 = .ok (.ireturn, 1) := by decide +kernel
theorem dL_allKnow_15 : decode cL_allKnow 15 = .ok (.iconst 0, 1) := by decide +kernel
theorem dL_allKnow_16 : decode cL_allKnow 16 = .ok (.ireturn, 1) := by decide +kernel
theorem kL_62 : CV RL 62 RX9 yX9_allKnow cX9_allKnow 2 (some .int) 1 := ⟨wsV_gt wd978 wd979 wd980 wd1 wd981, by decide +kernel⟩
set_option maxHeartbeats 4000000 in
set_option maxRecDepth 20000 in
theorem sL_allKnow (C : Cx p s m args meth c cL_allKnow 4 RL G) (hr : meth.sig.returnType = some .int) (ht : c.exceptionTable.toList = tableOf [(0, 9, 12, 18)]) (hst : l.stackTraces = false) {a1 : Int32} {S : St} {res : Int32 × St} {H : Heap} {locs : List Loc} {ls : Array Slot} (hd : Dy G S s H locs) (hl : lv_has ls 4 [(0, .ref (gR G 0)), (1, .int a1), (2, .ref (gR G 186))]) (h : fC (some 1) none false (fX9_allKnow a1 S) = some res) : W p l e (rmL 10 1 6) s m args below meth c H locs 0 0 (MQ below (QI G res.1 res.2) args s 1 6 (Ab G)) (F0 m 0 ls []) := by
  have hx := C.1.1
  have hb := C.1.2.1
  cases hf : fX9_allKnow a1 S with
  | none => rw [hf] at h; cases h
  | some w0 =>
    obtain ⟨w, S1⟩ := w0
    rw [hf] at h
    refine lv_aload_n hx hb dL_allKnow_0 rfl (lv_at hl 2 rfl) ?_
    refine lv_iconst hx hb dL_allKnow_1 rfl ?_
    refine lv_aload_n hx hb dL_allKnow_2 rfl (lv_at hl 0 rfl) ?_
    refine lv_iload_n hx hb dL_allKnow_3 rfl (lv_at hl 1 rfl) ?_
    refine R_tVc (rest := [.int 0, .ref (gR G 186)]) (As := [.int a1]) C hd (ccX9_allKnow l G hst hf) kL_62 rfl (by decide) (rfl : kd 0 = 9) hl.1 ⟨by decide, by decide⟩ rfl rfl (Nat.le_of_ble_eq_true rfl) dL_allKnow_4 ⟨by decide, by decide⟩ ?_ ?_
    · intro en hen ce q9 H1 locs1 hd1 hce hcv hcl9
      subst hen
      by_cases c1 : en = 1
      · subst c1
        refine vx_catch (own := RL) (name := nNS) C.1.2.2.2.1 [] ⟨0, 9, 12, 18⟩ [] ht (fun z hz => nomatch hz) (by decide) (by decide) (C.1.2.2.2.2 _ wd809) (C.cst 1) hce hcv hcl9 ?_
        refine lv_astore_n hx hb dL_allKnow_12 rfl hl (by decide) rfl (fun ls hl => ?_)
        refine lv_iconst hx hb dL_allKnow_13 rfl ?_
        exact R_iret C hr hd1 h dL_allKnow_14
      · exfalso
        exact fC_1 c1 h
    · intro v hv H1 locs1 hd1
      subst hv
      refine lv_i2l hx hb dL_allKnow_7 rfl ?_
      refine R_last (v := v) C hd1 dL_allKnow_8 (fun H2 locs2 hd2 => ?_)
      refine lv_goto (tgt := 15) hx hb dL_allKnow_9 (by decide) ?_
      refine lv_iconst hx hb dL_allKnow_15 rfl ?_
      exact R_iret C hr hd2 h dL_allKnow_16
set_option maxRecDepth 20000 in
theorem ccL_allKnow (l : Launch) (G : Gt) (hst : l.stackTraces = false) {a1 : Int32} {S : St} {res : Int32 × St} (h : fC (some 1) none false (fX9_allKnow a1 S) = some res) : Met l yL_allKnow (wmH yL_allKnow cL_allKnow 4 (some .int) [(0, 9, 12, 18)]) (rmL 10 1 6) (PcW G S [.ref (gR G 0), .int a1, .ref (gR G 186)]) (QI G res.1 res.2) 1 6 (Ab G) := by
  refine Mt_ofWH (cc := cL_allKnow) (maxL := 4) (ret := (some .int)) (hh := [(0, 9, 12, 18)]) (by decide) rfl ?_
  intro p e s m args below meth c s₁ B hml ht hv
  obtain ⟨rfl, hK, hP⟩ := hv
  have C : Cx p s m _ meth c cL_allKnow 4 RL G := ⟨⟨B.exec, B.bytes, hml, findClass_of_methodNamed B.named, fun w hw => atoms_spec (ws := wmH yL_allKnow cL_allKnow 4 (some .int) [(0, 9, 12, 18)]) B.pre w (List.mem_cons_of_mem _ hw)⟩, B.notSynchronized, hK⟩
  have hl := lv_entry ([.ref (gR G 0), .int a1, .ref (gR G 186)]) (n := 4) (Nat.le_of_ble_eq_true rfl)
  rw [lg_entry_eq]
  generalize (lg_sl ([.ref (gR G 0), .int a1, .ref (gR G 186)]) ++ List.replicate (4 - (lg_sl ([.ref (gR G 0), .int a1, .ref (gR G 186)])).length) Slot.unset).toArray = ls at hl ⊢
  exact sL_allKnow C B.returns ht hst ⟨hP, va_S.rf⟩ hl h
theorem dL_lost_0 : decode cL_lost 0 = .ok (.aload_n 2, 1) := by decide +kernel
theorem dL_lost_1 : decode cL_lost 1 = .ok (.iconst 0, 1) := by decide +kernel
theorem dL_lost_2 : decode cL_lost 2 = .ok (.aload_n 0, 1) := by decide +kernel
theorem dL_lost_3 : decode cL_lost 3 = .ok (.iload_n 1, 1) := by decide +kernel
theorem dL_lost_4 : decode cL_lost 4 = .ok (.invokevirtual 65, 3) := by decide +kernel
theorem dL_lost_7 : decode cL_lost 7 = .ok (.i2l, 1) := by decide +kernel
theorem dL_lost_8 : decode cL_lost 8 = .ok (.lastore, 1) := by decide +kernel
theorem dL_lost_9 : decode cL_lost 9 = .ok (.goto 6, 3) := by decide +kernel
theorem dL_lost_12 : decode cL_lost 12 = .ok (.astore_n 3, 1) := by decide +kernel
theorem dL_lost_13 : decode cL_lost 13 = .ok (.iconst 1, 1) := by decide +kernel
theorem dL_lost_14 : decode cL_lost 14 = .ok (.ireturn, 1) := by decide +kernel
theorem dL_lost_15 : decode cL_lost 15 = .ok (.iconst 0, 1) := by decide +kernel
theorem dL_lost_16 : decode cL_lost 16 = .ok (.ireturn, 1) := by decide +kernel
theorem kL_65 : CV RL 65 RX9 yX9_lost cX9_lost 3 (some .int) 1 := ⟨wsV_gt wd985 wd986 wd987 wd1 wd988, by decide +kernel⟩
set_option maxHeartbeats 4000000 in
set_option maxRecDepth 20000 in
theorem sL_lost (C : Cx p s m args meth c cL_lost 4 RL G) (hr : meth.sig.returnType = some .int) (ht : c.exceptionTable.toList = tableOf [(0, 9, 12, 18)]) (hst : l.stackTraces = false) {a1 : Int32} {S : St} {res : Int32 × St} {H : Heap} {locs : List Loc} {ls : Array Slot} (hd : Dy G S s H locs) (hl : lv_has ls 4 [(0, .ref (gR G 0)), (1, .int a1), (2, .ref (gR G 186))]) (h : fC (some 1) none false (fX9_lost a1 S) = some res) : W p l e (rmL 9 1 6) s m args below meth c H locs 0 0 (MQ below (QI G res.1 res.2) args s 1 6 (Ab G)) (F0 m 0 ls []) := by
  have hx := C.1.1
  have hb := C.1.2.1
  cases hf : fX9_lost a1 S with
  | none => rw [hf] at h; cases h
  | some w0 =>
    obtain ⟨w, S1⟩ := w0
    rw [hf] at h
    refine lv_aload_n hx hb dL_lost_0 rfl (lv_at hl 2 rfl) ?_
    refine lv_iconst hx hb dL_lost_1 rfl ?_
    refine lv_aload_n hx hb dL_lost_2 rfl (lv_at hl 0 rfl) ?_
    refine lv_iload_n hx hb dL_lost_3 rfl (lv_at hl 1 rfl) ?_
    refine R_tVc (rest := [.int 0, .ref (gR G 186)]) (As := [.int a1]) C hd (ccX9_lost l G hst hf) kL_65 rfl (by decide) (rfl : kd 0 = 9) hl.1 ⟨by decide, by decide⟩ rfl rfl (Nat.le_of_ble_eq_true rfl) dL_lost_4 ⟨by decide, by decide⟩ ?_ ?_
    · intro en hen ce q9 H1 locs1 hd1 hce hcv hcl9
      subst hen
      by_cases c1 : en = 1
      · subst c1
        refine vx_catch (own := RL) (name := nNS) C.1.2.2.2.1 [] ⟨0, 9, 12, 18⟩ [] ht (fun z hz => nomatch hz) (by decide) (by decide) (C.1.2.2.2.2 _ wd809) (C.cst 1) hce hcv hcl9 ?_
        refine lv_astore_n hx hb dL_lost_12 rfl hl (by decide) rfl (fun ls hl => ?_)
        refine lv_iconst hx hb dL_lost_13 rfl ?_
        exact R_iret C hr hd1 h dL_lost_14
      · exfalso
        exact fC_1 c1 h
    · intro v hv H1 locs1 hd1
      subst hv
      refine lv_i2l hx hb dL_lost_7 rfl ?_
      refine R_last (v := v) C hd1 dL_lost_8 (fun H2 locs2 hd2 => ?_)
      refine lv_goto (tgt := 15) hx hb dL_lost_9 (by decide) ?_
      refine lv_iconst hx hb dL_lost_15 rfl ?_
      exact R_iret C hr hd2 h dL_lost_16
set_option maxRecDepth 20000 in
theorem ccL_lost (l : Launch) (G : Gt) (hst : l.stackTraces = false) {a1 : Int32} {S : St} {res : Int32 × St} (h : fC (some 1) none false (fX9_lost a1 S) = some res) : Met l yL_lost (wmH yL_lost cL_lost 4 (some .int) [(0, 9, 12, 18)]) (rmL 9 1 6) (PcW G S [.ref (gR G 0), .int a1, .ref (gR G 186)]) (QI G res.1 res.2) 1 6 (Ab G) := by
  refine Mt_ofWH (cc := cL_lost) (maxL := 4) (ret := (some .int)) (hh := [(0, 9, 12, 18)]) (by decide) rfl ?_
  intro p e s m args below meth c s₁ B hml ht hv
  obtain ⟨rfl, hK, hP⟩ := hv
  have C : Cx p s m _ meth c cL_lost 4 RL G := ⟨⟨B.exec, B.bytes, hml, findClass_of_methodNamed B.named, fun w hw => atoms_spec (ws := wmH yL_lost cL_lost 4 (some .int) [(0, 9, 12, 18)]) B.pre w (List.mem_cons_of_mem _ hw)⟩, B.notSynchronized, hK⟩
  have hl := lv_entry ([.ref (gR G 0), .int a1, .ref (gR G 186)]) (n := 4) (Nat.le_of_ble_eq_true rfl)
  rw [lg_entry_eq]
  generalize (lg_sl ([.ref (gR G 0), .int a1, .ref (gR G 186)]) ++ List.replicate (4 - (lg_sl ([.ref (gR G 0), .int a1, .ref (gR G 186)])).length) Slot.unset).toArray = ls at hl ⊢
  exact sL_lost C B.returns ht hst ⟨hP, va_S.rf⟩ hl h
theorem dL_needed_0 : decode cL_needed 0 = .ok (.aload 4, 2) := by decide +kernel
theorem dL_needed_2 : decode cL_needed 2 = .ok (.iconst 0, 1) := by decide +kernel
theorem dL_needed_3 : decode cL_needed 3 = .ok (.aload_n 0, 1) := by decide +kernel
theorem dL_needed_4 : decode cL_needed 4 = .ok (.iload_n 1, 1) := by decide +kernel
theorem dL_needed_5 : decode cL_needed 5 = .ok (.iload_n 2, 1) := by decide +kernel
theorem dL_needed_6 : decode cL_needed 6 = .ok (.iload_n 3, 1) := by decide +kernel
theorem dL_needed_7 : decode cL_needed 7 = .ok (.invokevirtual 68, 3) := by decide +kernel
theorem dL_needed_10 : decode cL_needed 10 = .ok (.i2l, 1) := by decide +kernel
theorem dL_needed_11 : decode cL_needed 11 = .ok (.lastore, 1) := by decide +kernel
theorem dL_needed_12 : decode cL_needed 12 = .ok (.goto 11, 3) := by decide +kernel
theorem dL_needed_15 : decode cL_needed 15 = .ok (.astore 5, 2) := by decide +kernel
theorem dL_needed_17 : decode cL_needed 17 = .ok (.iconst 1, 1) := by decide +kernel
theorem dL_needed_18 : decode cL_needed 18 = .ok (.ireturn, 1) := by decide +kernel
theorem dL_needed_19 : decode cL_needed 19 = .ok (.astore 5, 2) := by decide +kernel
theorem dL_needed_21 : decode cL_needed 21 = .ok (.iconst 2, 1) := by decide +kernel
theorem dL_needed_22 : decode cL_needed 22 = .ok (.ireturn, 1) := by decide +kernel
theorem dL_needed_23 : decode cL_needed 23 = .ok (.iconst 0, 1) := by decide +kernel
theorem dL_needed_24 : decode cL_needed 24 = .ok (.ireturn, 1) := by decide +kernel
theorem kL_68 : CV RL 68 RX9 yX9_needed cX9_needed 6 (some .int) 3 := ⟨wsV_gt wd996 wd997 wd998 wd1 wd999, by decide +kernel⟩
set_option maxHeartbeats 4000000 in
set_option maxRecDepth 20000 in
theorem sL_needed (C : Cx p s m args meth c cL_needed 6 RL G) (hr : meth.sig.returnType = some .int) (ht : c.exceptionTable.toList = tableOf [(0, 12, 15, 18), (0, 12, 19, 13)]) (hst : l.stackTraces = false) {a1 : Int32} {a2 : Int32} {a3 : Int32} {S : St} {res : Int32 × St} {H : Heap} {locs : List Loc} {ls : Array Slot} (hd : Dy G S s H locs) (hl : lv_has ls 6 [(0, .ref (gR G 0)), (1, .int a1), (2, .int a2), (3, .int a3), (4, .ref (gR G 186))]) (h : fC (some 1) (some 2) false (fX9_needed a1 a2 a3 S) = some res) : W p l e (rmL 9 3 18) s m args below meth c H locs 0 0 (MQ below (QI G res.1 res.2) args s 3 18 (Ab G)) (F0 m 0 ls []) := by
  have hx := C.1.1
  have hb := C.1.2.1
  cases hf : fX9_needed a1 a2 a3 S with
  | none => rw [hf] at h; cases h
  | some w0 =>
    obtain ⟨w, S1⟩ := w0
    rw [hf] at h
    refine lv_aload hx hb dL_needed_0 (lv_at hl 4 rfl) ?_
    refine lv_iconst hx hb dL_needed_2 rfl ?_
    refine lv_aload_n hx hb dL_needed_3 rfl (lv_at hl 0 rfl) ?_
    refine lv_iload_n hx hb dL_needed_4 rfl (lv_at hl 1 rfl) ?_
    refine lv_iload_n hx hb dL_needed_5 rfl (lv_at hl 2 rfl) ?_
    refine lv_iload_n hx hb dL_needed_6 rfl (lv_at hl 3 rfl) ?_
    refine R_tVc (rest := [.int 0, .ref (gR G 186)]) (As := [.int a1, .int a2, .int a3]) C hd (ccX9_needed l G hst hf) kL_68 rfl (by decide) (rfl : kd 0 = 9) hl.1 ⟨by decide, by decide⟩ rfl rfl (Nat.le_of_ble_eq_true rfl) dL_needed_7 ⟨by decide, by decide⟩ ?_ ?_
    · intro en hen ce q9 H1 locs1 hd1 hce hcv hcl9
      subst hen
      by_cases c1 : en = 1
      · subst c1
        refine vx_catch (own := RL) (name := nNS) C.1.2.2.2.1 [] ⟨0, 12, 15, 18⟩ [⟨0, 12, 19, 13⟩] ht (fun z hz => nomatch hz) (by decide) (by decide) (C.1.2.2.2.2 _ wd809) (C.cst 1) hce hcv hcl9 ?_
        refine lv_astore hx hb dL_needed_15 hl (by decide) rfl (fun ls hl => ?_)
        refine lv_iconst hx hb dL_needed_17 rfl ?_
        exact R_iret C hr hd1 h dL_needed_18
      by_cases c2 : en = 2
      · subst c2
        refine vx_catch (own := RL) (name := nIA) C.1.2.2.2.1 [⟨0, 12, 15, 18⟩] ⟨0, 12, 19, 13⟩ [] ht (fun z hz => by cases List.mem_singleton.mp hz; exact Or.inr ⟨by decide, nNS, C.1.2.2.2.2 _ wd809, C.ncs⟩) (by decide) (by decide) (C.1.2.2.2.2 _ wd516) (C.cst 2) hce hcv hcl9 ?_
        refine lv_astore hx hb dL_needed_19 hl (by decide) rfl (fun ls hl => ?_)
        refine lv_iconst hx hb dL_needed_21 rfl ?_
        exact R_iret C hr hd1 h dL_needed_22
      · exfalso
        exact fC_12 c1 c2 h
    · intro v hv H1 locs1 hd1
      subst hv
      refine lv_i2l hx hb dL_needed_10 rfl ?_
      refine R_last (v := v) C hd1 dL_needed_11 (fun H2 locs2 hd2 => ?_)
      refine lv_goto (tgt := 23) hx hb dL_needed_12 (by decide) ?_
      refine lv_iconst hx hb dL_needed_23 rfl ?_
      exact R_iret C hr hd2 h dL_needed_24
set_option maxRecDepth 20000 in
theorem ccL_needed (l : Launch) (G : Gt) (hst : l.stackTraces = false) {a1 : Int32} {a2 : Int32} {a3 : Int32} {S : St} {res : Int32 × St} (h : fC (some 1) (some 2) false (fX9_needed a1 a2 a3 S) = some res) : Met l yL_needed (wmH yL_needed cL_needed 6 (some .int) [(0, 12, 15, 18), (0, 12, 19, 13)]) (rmL 9 3 18) (PcW G S [.ref (gR G 0), .int a1, .int a2, .int a3, .ref (gR G 186)]) (QI G res.1 res.2) 3 18 (Ab G) := by
  refine Mt_ofWH (cc := cL_needed) (maxL := 6) (ret := (some .int)) (hh := [(0, 12, 15, 18), (0, 12, 19, 13)]) (by decide) rfl ?_
  intro p e s m args below meth c s₁ B hml ht hv
  obtain ⟨rfl, hK, hP⟩ := hv
  have C : Cx p s m _ meth c cL_needed 6 RL G := ⟨⟨B.exec, B.bytes, hml, findClass_of_methodNamed B.named, fun w hw => atoms_spec (ws := wmH yL_needed cL_needed 6 (some .int) [(0, 12, 15, 18), (0, 12, 19, 13)]) B.pre w (List.mem_cons_of_mem _ hw)⟩, B.notSynchronized, hK⟩
  have hl := lv_entry ([.ref (gR G 0), .int a1, .int a2, .int a3, .ref (gR G 186)]) (n := 6) (Nat.le_of_ble_eq_true rfl)
  rw [lg_entry_eq]
  generalize (lg_sl ([.ref (gR G 0), .int a1, .int a2, .int a3, .ref (gR G 186)]) ++ List.replicate (6 - (lg_sl ([.ref (gR G 0), .int a1, .int a2, .int a3, .ref (gR G 186)])).length) Slot.unset).toArray = ls at hl ⊢
  exact sL_needed C B.returns ht hst ⟨hP, va_S.rf⟩ hl h
theorem dL_common_0 : decode cL_common 0 = .ok (.aload_n 3, 1) := by decide +kernel
theorem dL_common_1 : decode cL_common 1 = .ok (.iconst 0, 1) := by decide +kernel
theorem dL_common_2 : decode cL_common 2 = .ok (.aload_n 0, 1) := by decide +kernel
theorem dL_common_3 : decode cL_common 3 = .ok (.iload_n 1, 1) := by decide +kernel
theorem dL_common_4 : decode cL_common 4 = .ok (.iload_n 2, 1) := by decide +kernel
theorem dL_common_5 : decode cL_common 5 = .ok (.invokevirtual 71, 3) := by decide +kernel
theorem dL_common_8 : decode cL_common 8 = .ok (.i2l, 1) := by decide +kernel
theorem dL_common_9 : decode cL_common 9 = .ok (.lastore, 1) := by decide +kernel
theorem dL_common_10 : decode cL_common 10 = .ok (.goto 7, 3) := by decide +kernel
theorem dL_common_13 : decode cL_common 13 = .ok (.astore 4, 2) := by decide +kernel
theorem dL_common_15 : decode cL_common 15 = .ok (.iconst 1, 1) := by decide +kernel
theorem dL_common_16 : decode cL_common 16 = .ok (.ireturn, 1) := by decide +kernel
theorem dL_common_17 : decode cL_common 17 = .ok (.iconst 0, 1) := by decide +kernel
theorem dL_common_18 : decode cL_common 18 = .ok (.ireturn, 1) := by decide +kernel
theorem kL_71 : CV RL 71 RX9 yX9_common cX9_common 3 (some .int) 2 := ⟨wsV_gt wd1003 wd1004 wd1005 wd1 wd1006, by decide +kernel⟩
set_option maxHeartbeats 4000000 in
set_option maxRecDepth 20000 in
theorem sL_common (C : Cx p s m args meth c cL_common 5 RL G) (hr : meth.sig.returnType = some .int) (ht : c.exceptionTable.toList = tableOf [(0, 10, 13, 18)]) (hst : l.stackTraces = false) {a1 : Int32} {a2 : Int32} {S : St} {res : Int32 × St} {H : Heap} {locs : List Loc} {ls : Array Slot} (hd : Dy G S s H locs) (hl : lv_has ls 5 [(0, .ref (gR G 0)), (1, .int a1), (2, .int a2), (3, .ref (gR G 186))]) (h : fC (some 1) none false (fX9_common a1 a2 S) = some res) : W p l e (rmL 8 2 12) s m args below meth c H locs 0 0 (MQ below (QI G res.1 res.2) args s 2 12 (Ab G)) (F0 m 0 ls []) := by
  have hx := C.1.1
  have hb := C.1.2.1
  cases hf : fX9_common a1 a2 S with
  | none => rw [hf] at h; cases h
  | some w0 =>
    obtain ⟨w, S1⟩ := w0
    rw [hf] at h
    refine lv_aload_n hx hb dL_common_0 rfl (lv_at hl 3 rfl) ?_
    refine lv_iconst hx hb dL_common_1 rfl ?_
    refine lv_aload_n hx hb dL_common_2 rfl (lv_at hl 0 rfl) ?_
    refine lv_iload_n hx hb dL_common_3 rfl (lv_at hl 1 rfl) ?_
    refine lv_iload_n hx hb dL_common_4 rfl (lv_at hl 2 rfl) ?_
    refine R_tVc (rest := [.int 0, .ref (gR G 186)]) (As := [.int a1, .int a2]) C hd (ccX9_common l G hst hf) kL_71 rfl (by decide) (rfl : kd 0 = 9) hl.1 ⟨by decide, by decide⟩ rfl rfl (Nat.le_of_ble_eq_true rfl) dL_common_5 ⟨by decide, by decide⟩ ?_ ?_
    · intro en hen ce q9 H1 locs1 hd1 hce hcv hcl9
      subst hen
      by_cases c1 : en = 1
      · subst c1
        refine vx_catch (own := RL) (name := nNS) C.1.2.2.2.1 [] ⟨0, 10, 13, 18⟩ [] ht (fun z hz => nomatch hz) (by decide) (by decide) (C.1.2.2.2.2 _ wd809) (C.cst 1) hce hcv hcl9 ?_
        refine lv_astore hx hb dL_common_13 hl (by decide) rfl (fun ls hl => ?_)
        refine lv_iconst hx hb dL_common_15 rfl ?_
        exact R_iret C hr hd1 h dL_common_16
      · exfalso
        exact fC_1 c1 h
    · intro v hv H1 locs1 hd1
      subst hv
      refine lv_i2l hx hb dL_common_8 rfl ?_
      refine R_last (v := v) C hd1 dL_common_9 (fun H2 locs2 hd2 => ?_)
      refine lv_goto (tgt := 17) hx hb dL_common_10 (by decide) ?_
      refine lv_iconst hx hb dL_common_17 rfl ?_
      exact R_iret C hr hd2 h dL_common_18
set_option maxRecDepth 20000 in
theorem ccL_common (l : Launch) (G : Gt) (hst : l.stackTraces = false) {a1 : Int32} {a2 : Int32} {S : St} {res : Int32 × St} (h : fC (some 1) none false (fX9_common a1 a2 S) = some res) : Met l yL_common (wmH yL_common cL_common 5 (some .int) [(0, 10, 13, 18)]) (rmL 8 2 12) (PcW G S [.ref (gR G 0), .int a1, .int a2, .ref (gR G 186)]) (QI G res.1 res.2) 2 12 (Ab G) := by
  refine Mt_ofWH (cc := cL_common) (maxL := 5) (ret := (some .int)) (hh := [(0, 10, 13, 18)]) (by decide) rfl ?_
  intro p e s m args below meth c s₁ B hml ht hv
  obtain ⟨rfl, hK, hP⟩ := hv
  have C : Cx p s m _ meth c cL_common 5 RL G := ⟨⟨B.exec, B.bytes, hml, findClass_of_methodNamed B.named, fun w hw => atoms_spec (ws := wmH yL_common cL_common 5 (some .int) [(0, 10, 13, 18)]) B.pre w (List.mem_cons_of_mem _ hw)⟩, B.notSynchronized, hK⟩
  have hl := lv_entry ([.ref (gR G 0), .int a1, .int a2, .ref (gR G 186)]) (n := 5) (Nat.le_of_ble_eq_true rfl)
  rw [lg_entry_eq]
  generalize (lg_sl ([.ref (gR G 0), .int a1, .int a2, .ref (gR G 186)]) ++ List.replicate (5 - (lg_sl ([.ref (gR G 0), .int a1, .int a2, .ref (gR G 186)])).length) Slot.unset).toArray = ls at hl ⊢
  exact sL_common C B.returns ht hst ⟨hP, va_S.rf⟩ hl h
theorem dL_far_0 : decode cL_far 0 = .ok (.aload_n 3, 1) := by decide +kernel
theorem dL_far_1 : decode cL_far 1 = .ok (.iconst 0, 1) := by decide +kernel
theorem dL_far_2 : decode cL_far 2 = .ok (.aload_n 0, 1) := by decide +kernel
theorem dL_far_3 : decode cL_far 3 = .ok (.iload_n 1, 1) := by decide +kernel
theorem dL_far_4 : decode cL_far 4 = .ok (.iload_n 2, 1) := by decide +kernel
theorem dL_far_5 : decode cL_far 5 = .ok (.invokevirtual 74, 3) := by decide +kernel
theorem dL_far_8 : decode cL_far 8 = .ok (.i2l, 1) := by decide +kernel
theorem dL_far_9 : decode cL_far 9 = .ok (.lastore, 1) := by decide +kernel
theorem dL_far_10 : decode cL_far 10 = .ok (.goto 7, 3) := by decide +kernel
theorem dL_far_13 : decode cL_far 13 = .ok (.astore 4, 2) := by decide +kernel
theorem dL_far_15 : decode cL_far 15 = .ok (.iconst 1, 1) := by decide +kernel
theorem dL_far_16 : decode cL_far 16 = .ok (.ireturn, 1) := by decide +kernel
theorem dL_far_17 : decode cL_far 17 = .ok (.iconst 0, 1) := by decide +kernel
theorem dL_far_18 : decode cL_far 18 = .ok (.ireturn, 1) := by decide +kernel
theorem kL_74 : CV RL 74 RX9 yX9_far cX9_far 4 (some .int) 2 := ⟨wsV_gt wd1011 wd1012 wd1013 wd1 wd1014, by decide +kernel⟩
set_option maxHeartbeats 4000000 in
set_option maxRecDepth 20000 in
theorem sL_far (C : Cx p s m args meth c cL_far 5 RL G) (hr : meth.sig.returnType = some .int) (ht : c.exceptionTable.toList = tableOf [(0, 10, 13, 18)]) (hst : l.stackTraces = false) {a1 : Int32} {a2 : Int32} {S : St} {res : Int32 × St} {H : Heap} {locs : List Loc} {ls : Array Slot} (hd : Dy G S s H locs) (hl : lv_has ls 5 [(0, .ref (gR G 0)), (1, .int a1), (2, .int a2), (3, .ref (gR G 186))]) (h : fC (some 1) none false (fX9_far a1 a2 S) = some res) : W p l e (rmL 8 2 12) s m args below meth c H locs 0 0 (MQ below (QI G res.1 res.2) args s 2 12 (Ab G)) (F0 m 0 ls []) := by
  have hx := C.1.1
  have hb := C.1.2.1
  cases hf : fX9_far a1 a2 S with
  | none => rw [hf] at h; cases h
  | some w0 =>
    obtain ⟨w, S1⟩ := w0
    rw [hf] at h
    refine lv_aload_n hx hb dL_far_0 rfl (lv_at hl 3 rfl) ?_
    refine lv_iconst hx hb dL_far_1 rfl ?_
    refine lv_aload_n hx hb dL_far_2 rfl (lv_at hl 0 rfl) ?_
    refine lv_iload_n hx hb dL_far_3 rfl (lv_at hl 1 rfl) ?_
    refine lv_iload_n hx hb dL_far_4 rfl (lv_at hl 2 rfl) ?_
    refine R_tVc (rest := [.int 0, .ref (gR G 186)]) (As := [.int a1, .int a2]) C hd (ccX9_far l G hst hf) kL_74 rfl (by decide) (rfl : kd 0 = 9) hl.1 ⟨by decide, by decide⟩ rfl rfl (Nat.le_of_ble_eq_true rfl) dL_far_5 ⟨by decide, by decide⟩ ?_ ?_
    · intro en hen ce q9 H1 locs1 hd1 hce hcv hcl9
      subst hen
      by_cases c1 : en = 1
      · subst c1
        refine vx_catch (own := RL) (name := nNS) C.1.2.2.2.1 [] ⟨0, 10, 13, 18⟩ [] ht (fun z hz => nomatch hz) (by decide) (by decide) (C.1.2.2.2.2 _ wd809) (C.cst 1) hce hcv hcl9 ?_
        refine lv_astore hx hb dL_far_13 hl (by decide) rfl (fun ls hl => ?_)
        refine lv_iconst hx hb dL_far_15 rfl ?_
        exact R_iret C hr hd1 h dL_far_16
      · exfalso
        exact fC_1 c1 h
    · intro v hv H1 locs1 hd1
      subst hv
      refine lv_i2l hx hb dL_far_8 rfl ?_
      refine R_last (v := v) C hd1 dL_far_9 (fun H2 locs2 hd2 => ?_)
      refine lv_goto (tgt := 17) hx hb dL_far_10 (by decide) ?_
      refine lv_iconst hx hb dL_far_17 rfl ?_
      exact R_iret C hr hd2 h dL_far_18
set_option maxRecDepth 20000 in
theorem ccL_far (l : Launch) (G : Gt) (hst : l.stackTraces = false) {a1 : Int32} {a2 : Int32} {S : St} {res : Int32 × St} (h : fC (some 1) none false (fX9_far a1 a2 S) = some res) : Met l yL_far (wmH yL_far cL_far 5 (some .int) [(0, 10, 13, 18)]) (rmL 8 2 12) (PcW G S [.ref (gR G 0), .int a1, .int a2, .ref (gR G 186)]) (QI G res.1 res.2) 2 12 (Ab G) := by
  refine Mt_ofWH (cc := cL_far) (maxL := 5) (ret := (some .int)) (hh := [(0, 10, 13, 18)]) (by decide) rfl ?_
  intro p e s m args below meth c s₁ B hml ht hv
  obtain ⟨rfl, hK, hP⟩ := hv
  have C : Cx p s m _ meth c cL_far 5 RL G := ⟨⟨B.exec, B.bytes, hml, findClass_of_methodNamed B.named, fun w hw => atoms_spec (ws := wmH yL_far cL_far 5 (some .int) [(0, 10, 13, 18)]) B.pre w (List.mem_cons_of_mem _ hw)⟩, B.notSynchronized, hK⟩
  have hl := lv_entry ([.ref (gR G 0), .int a1, .int a2, .ref (gR G 186)]) (n := 5) (Nat.le_of_ble_eq_true rfl)
  rw [lg_entry_eq]
  generalize (lg_sl ([.ref (gR G 0), .int a1, .int a2, .ref (gR G 186)]) ++ List.replicate (5 - (lg_sl ([.ref (gR G 0), .int a1, .int a2, .ref (gR G 186)])).length) Slot.unset).toArray = ls at hl ⊢
  exact sL_far C B.returns ht hst ⟨hP, va_S.rf⟩ hl h
theorem dL_round_0 : decode cL_round 0 = .ok (.aload_n 2, 1) := by decide +kernel
theorem dL_round_1 : decode cL_round 1 = .ok (.iconst 0, 1) := by decide +kernel
theorem dL_round_2 : decode cL_round 2 = .ok (.aload_n 0, 1) := by decide +kernel
theorem dL_round_3 : decode cL_round 3 = .ok (.iload_n 1, 1) := by decide +kernel
theorem dL_round_4 : decode cL_round 4 = .ok (.invokevirtual 77, 3) := by decide +kernel
theorem dL_round_7 : decode cL_round 7 = .ok (.i2l, 1) := by decide +kernel
theorem dL_round_8 : decode cL_round 8 = .ok (.lastore, 1) := by decide +kernel
theorem dL_round_9 : decode cL_round 9 = .ok (.goto 6, 3) := by decide +kernel
theorem dL_round_12 : decode cL_round 12 = .ok (.astore_n 3, 1) := by decide +kernel
theorem dL_round_13 : decode cL_round 13 = .ok (.iconst 1, 1) := by decide +kernel
theorem dL_round_14 : decode cL_round 14 = .ok (.ireturn, 1) := by decide +kernel
theorem dL_round_15 : decode cL_round 15 = .ok (.iconst 0, 1) := by decide +kernel
theorem dL_round_16 : decode cL_round 16 = .ok (.ireturn, 1) := by decide +kernel
theorem kL_77 : CV RL 77 RX9 yX9_round cX9_round 2 (some .int) 1 := ⟨wsV_gt wd1019 wd1020 wd1021 wd1 wd1022, by decide +kernel⟩
set_option maxHeartbeats 4000000 in
set_option maxRecDepth 20000 in
theorem sL_round (C : Cx p s m args meth c cL_round 4 RL G) (hr : meth.sig.returnType = some .int) (ht : c.exceptionTable.toList = tableOf [(0, 9, 12, 18)]) (hst : l.stackTraces = false) {a1 : Int32} {S : St} {res : Int32 × St} {H : Heap} {locs : List Loc} {ls : Array Slot} (hd : Dy G S s H locs) (hl : lv_has ls 4 [(0, .ref (gR G 0)), (1, .int a1), (2, .ref (gR G 186))]) (h : fC (some 1) none false (fX9_round a1 S) = some res) : W p l e (rmL 8 1 6) s m args below meth c H locs 0 0 (MQ below (QI G res.1 res.2) args s 1 6 (Ab G)) (F0 m 0 ls []) := by
  have hx := C.1.1
  have hb := C.1.2.1
  cases hf : fX9_round a1 S with
  | none => rw [hf] at h; cases h
  | some w0 =>
    obtain ⟨w, S1⟩ := w0
    rw [hf] at h
    refine lv_aload_n hx hb dL_round_0 rfl (lv_at hl 2 rfl) ?_
    refine lv_iconst hx hb dL_round_1 rfl ?_
    refine lv_aload_n hx hb dL_round_2 rfl (lv_at hl 0 rfl) ?_
    refine lv_iload_n hx hb dL_round_3 rfl (lv_at hl 1 rfl) ?_
    refine R_tVc (rest := [.int 0, .ref (gR G 186)]) (As := [.int a1]) C hd (ccX9_round l G hst hf) kL_77 rfl (by decide) (rfl : kd 0 = 9) hl.1 ⟨by decide, by decide⟩ rfl rfl (Nat.le_of_ble_eq_true rfl) dL_round_4 ⟨by decide, by decide⟩ ?_ ?_
    · intro en hen ce q9 H1 locs1 hd1 hce hcv hcl9
      subst hen
      by_cases c1 : en = 1
      · subst c1
        refine vx_catch (own := RL) (name := nNS) C.1.2.2.2.1 [] ⟨0, 9, 12, 18⟩ [] ht (fun z hz => nomatch hz) (by decide) (by decide) (C.1.2.2.2.2 _ wd809) (C.cst 1) hce hcv hcl9 ?_
        refine lv_astore_n hx hb dL_round_12 rfl hl (by decide) rfl (fun ls hl => ?_)
        refine lv_iconst hx hb dL_round_13 rfl ?_
        exact R_iret C hr hd1 h dL_round_14
      · exfalso
        exact fC_1 c1 h
    · intro v hv H1 locs1 hd1
      subst hv
      refine lv_i2l hx hb dL_round_7 rfl ?_
      refine R_last (v := v) C hd1 dL_round_8 (fun H2 locs2 hd2 => ?_)
      refine lv_goto (tgt := 15) hx hb dL_round_9 (by decide) ?_
      refine lv_iconst hx hb dL_round_15 rfl ?_
      exact R_iret C hr hd2 h dL_round_16
set_option maxRecDepth 20000 in
theorem ccL_round (l : Launch) (G : Gt) (hst : l.stackTraces = false) {a1 : Int32} {S : St} {res : Int32 × St} (h : fC (some 1) none false (fX9_round a1 S) = some res) : Met l yL_round (wmH yL_round cL_round 4 (some .int) [(0, 9, 12, 18)]) (rmL 8 1 6) (PcW G S [.ref (gR G 0), .int a1, .ref (gR G 186)]) (QI G res.1 res.2) 1 6 (Ab G) := by
  refine Mt_ofWH (cc := cL_round) (maxL := 4) (ret := (some .int)) (hh := [(0, 9, 12, 18)]) (by decide) rfl ?_
  intro p e s m args below meth c s₁ B hml ht hv
  obtain ⟨rfl, hK, hP⟩ := hv
  have C : Cx p s m _ meth c cL_round 4 RL G := ⟨⟨B.exec, B.bytes, hml, findClass_of_methodNamed B.named, fun w hw => atoms_spec (ws := wmH yL_round cL_round 4 (some .int) [(0, 9, 12, 18)]) B.pre w (List.mem_cons_of_mem _ hw)⟩, B.notSynchronized, hK⟩
  have hl := lv_entry ([.ref (gR G 0), .int a1, .ref (gR G 186)]) (n := 4) (Nat.le_of_ble_eq_true rfl)
  rw [lg_entry_eq]
  generalize (lg_sl ([.ref (gR G 0), .int a1, .ref (gR G 186)]) ++ List.replicate (4 - (lg_sl ([.ref (gR G 0), .int a1, .ref (gR G 186)])).length) Slot.unset).toArray = ls at hl ⊢
  exact sL_round C B.returns ht hst ⟨hP, va_S.rf⟩ hl h
theorem dL_wedding_0 : decode cL_wedding 0 = .ok (.aload_n 2, 1) := by decide +kernel
theorem dL_wedding_1 : decode cL_wedding 1 = .ok (.iconst 0, 1) := by decide +kernel
theorem dL_wedding_2 : decode cL_wedding 2 = .ok (.aload_n 0, 1) := by decide +kernel
theorem dL_wedding_3 : decode cL_wedding 3 = .ok (.iload_n 1, 1) := by decide +kernel
theorem dL_wedding_4 : decode cL_wedding 4 = .ok (.invokevirtual 80, 3) := by decide +kernel
theorem dL_wedding_7 : decode cL_wedding 7 = .ok (.i2l, 1) := by decide +kernel
theorem dL_wedding_8 : decode cL_wedding 8 = .ok (.lastore, 1) := by decide +kernel
theorem dL_wedding_9 : decode cL_wedding 9 = .ok (.goto 6, 3) := by decide +kernel
theorem dL_wedding_12 : decode cL_wedding 12 = .ok (.astore_n 3, 1) := by decide +kernel
theorem dL_wedding_13 : decode cL_wedding 13 = .ok (.iconst 1, 1) := by decide +kernel
theorem dL_wedding_14 : decode cL_wedding 14 = .ok (.ireturn, 1) := by decide +kernel
theorem dL_wedding_15 : decode cL_wedding 15 = .ok (.iconst 0, 1) := by decide +kernel
theorem dL_wedding_16 : decode cL_wedding 16 = .ok (.ireturn, 1) := by decide +kernel
theorem kL_80 : CV RL 80 RX9 yX9_wedding cX9_wedding 2 (some .int) 1 := ⟨wsV_gt wd1037 wd1038 wd1039 wd1 wd1040, by decide +kernel⟩
set_option maxHeartbeats 4000000 in
set_option maxRecDepth 20000 in
theorem sL_wedding (C : Cx p s m args meth c cL_wedding 4 RL G) (hr : meth.sig.returnType = some .int) (ht : c.exceptionTable.toList = tableOf [(0, 9, 12, 18)]) (hst : l.stackTraces = false) {a1 : Int32} {S : St} {res : Int32 × St} {H : Heap} {locs : List Loc} {ls : Array Slot} (hd : Dy G S s H locs) (hl : lv_has ls 4 [(0, .ref (gR G 0)), (1, .int a1), (2, .ref (gR G 186))]) (h : fC (some 1) none false (fX9_wedding a1 S) = some res) : W p l e (rmL 8 1 6) s m args below meth c H locs 0 0 (MQ below (QI G res.1 res.2) args s 1 6 (Ab G)) (F0 m 0 ls []) := by
  have hx := C.1.1
  have hb := C.1.2.1
  cases hf : fX9_wedding a1 S with
  | none => rw [hf] at h; cases h
  | some w0 =>
    obtain ⟨w, S1⟩ := w0
    rw [hf] at h
    refine lv_aload_n hx hb dL_wedding_0 rfl (lv_at hl 2 rfl) ?_
    refine lv_iconst hx hb dL_wedding_1 rfl ?_
    refine lv_aload_n hx hb dL_wedding_2 rfl (lv_at hl 0 rfl) ?_
    refine lv_iload_n hx hb dL_wedding_3 rfl (lv_at hl 1 rfl) ?_
    refine R_tVc (rest := [.int 0, .ref (gR G 186)]) (As := [.int a1]) C hd (ccX9_wedding l G hst hf) kL_80 rfl (by decide) (rfl : kd 0 = 9) hl.1 ⟨by decide, by decide⟩ rfl rfl (Nat.le_of_ble_eq_true rfl) dL_wedding_4 ⟨by decide, by decide⟩ ?_ ?_
    · intro en hen ce q9 H1 locs1 hd1 hce hcv hcl9
      subst hen
      by_cases c1 : en = 1
      · subst c1
        refine vx_catch (own := RL) (name := nNS) C.1.2.2.2.1 [] ⟨0, 9, 12, 18⟩ [] ht (fun z hz => nomatch hz) (by decide) (by decide) (C.1.2.2.2.2 _ wd809) (C.cst 1) hce hcv hcl9 ?_
        refine lv_astore_n hx hb dL_wedding_12 rfl hl (by decide) rfl (fun ls hl => ?_)
        refine lv_iconst hx hb dL_wedding_13 rfl ?_
        exact R_iret C hr hd1 h dL_wedding_14
      · exfalso
        exact fC_1 c1 h
    · intro v hv H1 locs1 hd1
      subst hv
      refine lv_i2l hx hb dL_wedding_7 rfl ?_
      refine R_last (v := v) C hd1 dL_wedding_8 (fun H2 locs2 hd2 => ?_)
      refine lv_goto (tgt := 15) hx hb dL_wedding_9 (by decide) ?_
      refine lv_iconst hx hb dL_wedding_15 rfl ?_
      exact R_iret C hr hd2 h dL_wedding_16
set_option maxRecDepth 20000 in
theorem ccL_wedding (l : Launch) (G : Gt) (hst : l.stackTraces = false) {a1 : Int32} {S : St} {res : Int32 × St} (h : fC (some 1) none false (fX9_wedding a1 S) = some res) : Met l yL_wedding (wmH yL_wedding cL_wedding 4 (some .int) [(0, 9, 12, 18)]) (rmL 8 1 6) (PcW G S [.ref (gR G 0), .int a1, .ref (gR G 186)]) (QI G res.1 res.2) 1 6 (Ab G) := by
  refine Mt_ofWH (cc := cL_wedding) (maxL := 4) (ret := (some .int)) (hh := [(0, 9, 12, 18)]) (by decide) rfl ?_
  intro p e s m args below meth c s₁ B hml ht hv
  obtain ⟨rfl, hK, hP⟩ := hv
  have C : Cx p s m _ meth c cL_wedding 4 RL G := ⟨⟨B.exec, B.bytes, hml, findClass_of_methodNamed B.named, fun w hw => atoms_spec (ws := wmH yL_wedding cL_wedding 4 (some .int) [(0, 9, 12, 18)]) B.pre w (List.mem_cons_of_mem _ hw)⟩, B.notSynchronized, hK⟩
  have hl := lv_entry ([.ref (gR G 0), .int a1, .ref (gR G 186)]) (n := 4) (Nat.le_of_ble_eq_true rfl)
  rw [lg_entry_eq]
  generalize (lg_sl ([.ref (gR G 0), .int a1, .ref (gR G 186)]) ++ List.replicate (4 - (lg_sl ([.ref (gR G 0), .int a1, .ref (gR G 186)])).length) Slot.unset).toArray = ls at hl ⊢
  exact sL_wedding C B.returns ht hst ⟨hP, va_S.rf⟩ hl h
theorem dL_heirs_0 : decode cL_heirs 0 = .ok (.aload_n 2, 1) := by decide +kernel
theorem dL_heirs_1 : decode cL_heirs 1 = .ok (.iconst 0, 1) := by decide +kernel
theorem dL_heirs_2 : decode cL_heirs 2 = .ok (.aload_n 0, 1) := by decide +kernel
theorem dL_heirs_3 : decode cL_heirs 3 = .ok (.iload_n 1, 1) := by decide +kernel
theorem dL_heirs_4 : decode cL_heirs 4 = .ok (.invokevirtual 83, 3) := by decide +kernel
theorem dL_heirs_7 : decode cL_heirs 7 = .ok (.i2l, 1) := by decide +kernel
theorem dL_heirs_8 : decode cL_heirs 8 = .ok (.lastore, 1) := by decide +kernel
theorem dL_heirs_9 : decode cL_heirs 9 = .ok (.goto 6, 3) := by decide +kernel
theorem dL_heirs_12 : decode cL_heirs 12 = .ok (.astore_n 3, 1) := by decide +kernel
theorem dL_heirs_13 : decode cL_heirs 13 = .ok (.iconst 1, 1) := by decide +kernel
theorem dL_heirs_14 : decode cL_heirs 14 = .ok (.ireturn, 1) := by decide +kernel
theorem dL_heirs_15 : decode cL_heirs 15 = .ok (.iconst 0, 1) := by decide +kernel
theorem dL_heirs_16 : decode cL_heirs 16 = .ok (.ireturn, 1) := by decide +kernel
theorem kL_83 : CV RL 83 RX9 yX9_heirs cX9_heirs 2 (some .int) 1 := ⟨wsV_gt wd1049 wd1050 wd1051 wd1 wd1052, by decide +kernel⟩
set_option maxHeartbeats 4000000 in
set_option maxRecDepth 20000 in
theorem sL_heirs (C : Cx p s m args meth c cL_heirs 4 RL G) (hr : meth.sig.returnType = some .int) (ht : c.exceptionTable.toList = tableOf [(0, 9, 12, 13)]) (hst : l.stackTraces = false) {a1 : Int32} {S : St} {res : Int32 × St} {H : Heap} {locs : List Loc} {ls : Array Slot} (hd : Dy G S s H locs) (hl : lv_has ls 4 [(0, .ref (gR G 0)), (1, .int a1), (2, .ref (gR G 186))]) (h : fC none (some 1) false (fX9_heirs a1 S) = some res) : W p l e (rmL 7 1 6) s m args below meth c H locs 0 0 (MQ below (QI G res.1 res.2) args s 1 6 (Ab G)) (F0 m 0 ls []) := by
  have hx := C.1.1
  have hb := C.1.2.1
  cases hf : fX9_heirs a1 S with
  | none => rw [hf] at h; cases h
  | some w0 =>
    obtain ⟨w, S1⟩ := w0
    rw [hf] at h
    refine lv_aload_n hx hb dL_heirs_0 rfl (lv_at hl 2 rfl) ?_
    refine lv_iconst hx hb dL_heirs_1 rfl ?_
    refine lv_aload_n hx hb dL_heirs_2 rfl (lv_at hl 0 rfl) ?_
    refine lv_iload_n hx hb dL_heirs_3 rfl (lv_at hl 1 rfl) ?_
    refine R_tVc (rest := [.int 0, .ref (gR G 186)]) (As := [.int a1]) C hd (ccX9_heirs l G hst hf) kL_83 rfl (by decide) (rfl : kd 0 = 9) hl.1 ⟨by decide, by decide⟩ rfl rfl (Nat.le_of_ble_eq_true rfl) dL_heirs_4 ⟨by decide, by decide⟩ ?_ ?_
    · intro en hen ce q9 H1 locs1 hd1 hce hcv hcl9
      subst hen
      by_cases c2 : en = 2
      · subst c2
        refine vx_catch (own := RL) (name := nIA) C.1.2.2.2.1 [] ⟨0, 9, 12, 13⟩ [] ht (fun z hz => nomatch hz) (by decide) (by decide) (C.1.2.2.2.2 _ wd516) (C.cst 2) hce hcv hcl9 ?_
        refine lv_astore_n hx hb dL_heirs_12 rfl hl (by decide) rfl (fun ls hl => ?_)
        refine lv_iconst hx hb dL_heirs_13 rfl ?_
        exact R_iret C hr hd1 h dL_heirs_14
      · exfalso
        exact fC_2 c2 h
    · intro v hv H1 locs1 hd1
      subst hv
      refine lv_i2l hx hb dL_heirs_7 rfl ?_
      refine R_last (v := v) C hd1 dL_heirs_8 (fun H2 locs2 hd2 => ?_)
      refine lv_goto (tgt := 15) hx hb dL_heirs_9 (by decide) ?_
      refine lv_iconst hx hb dL_heirs_15 rfl ?_
      exact R_iret C hr hd2 h dL_heirs_16
set_option maxRecDepth 20000 in
theorem ccL_heirs (l : Launch) (G : Gt) (hst : l.stackTraces = false) {a1 : Int32} {S : St} {res : Int32 × St} (h : fC none (some 1) false (fX9_heirs a1 S) = some res) : Met l yL_heirs (wmH yL_heirs cL_heirs 4 (some .int) [(0, 9, 12, 13)]) (rmL 7 1 6) (PcW G S [.ref (gR G 0), .int a1, .ref (gR G 186)]) (QI G res.1 res.2) 1 6 (Ab G) := by
  refine Mt_ofWH (cc := cL_heirs) (maxL := 4) (ret := (some .int)) (hh := [(0, 9, 12, 13)]) (by decide) rfl ?_
  intro p e s m args below meth c s₁ B hml ht hv
  obtain ⟨rfl, hK, hP⟩ := hv
  have C : Cx p s m _ meth c cL_heirs 4 RL G := ⟨⟨B.exec, B.bytes, hml, findClass_of_methodNamed B.named, fun w hw => atoms_spec (ws := wmH yL_heirs cL_heirs 4 (some .int) [(0, 9, 12, 13)]) B.pre w (List.mem_cons_of_mem _ hw)⟩, B.notSynchronized, hK⟩
  have hl := lv_entry ([.ref (gR G 0), .int a1, .ref (gR G 186)]) (n := 4) (Nat.le_of_ble_eq_true rfl)
  rw [lg_entry_eq]
  generalize (lg_sl ([.ref (gR G 0), .int a1, .ref (gR G 186)]) ++ List.replicate (4 - (lg_sl ([.ref (gR G 0), .int a1, .ref (gR G 186)])).length) Slot.unset).toArray = ls at hl ⊢
  exact sL_heirs C B.returns ht hst ⟨hP, va_S.rf⟩ hl h
theorem dL_hear_0 : decode cL_hear 0 = .ok (.aload 4, 2) := by decide +kernel
theorem dL_hear_2 : decode cL_hear 2 = .ok (.iconst 0, 1) := by decide +kernel
theorem dL_hear_3 : decode cL_hear 3 = .ok (.aload_n 0, 1) := by decide +kernel
theorem dL_hear_4 : decode cL_hear 4 = .ok (.iload_n 1, 1) := by decide +kernel
theorem dL_hear_5 : decode cL_hear 5 = .ok (.iload_n 2, 1) := by decide +kernel
theorem dL_hear_6 : decode cL_hear 6 = .ok (.iload_n 3, 1) := by decide +kernel
theorem dL_hear_7 : decode cL_hear 7 = .ok (.invokevirtual 86, 3) := by decide +kernel
theorem dL_hear_10 : decode cL_hear 10 = .ok (.i2l, 1) := by decide +kernel
theorem dL_hear_11 : decode cL_hear 11 = .ok (.lastore, 1) := by decide +kernel
theorem dL_hear_12 : decode cL_hear 12 = .ok (.goto 7, 3) := by decide +kernel
theorem dL_hear_15 : decode cL_hear 15 = .ok (.astore 5, 2) := by decide +kernel
theorem dL_hear_17 : decode cL_hear 17 = .ok (.iconst 1, 1) := by decide +kernel
theorem dL_hear_18 : decode cL_hear 18 = .ok (.ireturn, 1) := by decide +kernel
theorem dL_hear_19 : decode cL_hear 19 = .ok (.iconst 0, 1) := by decide +kernel
theorem dL_hear_20 : decode cL_hear 20 = .ok (.ireturn, 1) := by decide +kernel
theorem kL_86 : CV RL 86 RX9 yX9_hear cX9_hear 4 (some .int) 3 := ⟨wsV_gt wd1061 wd1062 wd1063 wd1 wd1064, by decide +kernel⟩
set_option maxHeartbeats 4000000 in
set_option maxRecDepth 20000 in
theorem sL_hear (C : Cx p s m args meth c cL_hear 6 RL G) (hr : meth.sig.returnType = some .int) (ht : c.exceptionTable.toList = tableOf [(0, 12, 15, 18)]) (hst : l.stackTraces = false) {a1 : Int32} {a2 : Int32} {a3 : Int32} {S : St} {res : Int32 × St} {H : Heap} {locs : List Loc} {ls : Array Slot} (hd : Dy G S s H locs) (hl : lv_has ls 6 [(0, .ref (gR G 0)), (1, .int a1), (2, .int a2), (3, .int a3), (4, .ref (gR G 186))]) (h : fC (some 1) none false (fX9_hear a1 a2 a3 S) = some res) : W p l e (rmL 8 2 12) s m args below meth c H locs 0 0 (MQ below (QI G res.1 res.2) args s 2 12 (Ab G)) (F0 m 0 ls []) := by
  have hx := C.1.1
  have hb := C.1.2.1
  cases hf : fX9_hear a1 a2 a3 S with
  | none => rw [hf] at h; cases h
  | some w0 =>
    obtain ⟨w, S1⟩ := w0
    rw [hf] at h
    refine lv_aload hx hb dL_hear_0 (lv_at hl 4 rfl) ?_
    refine lv_iconst hx hb dL_hear_2 rfl ?_
    refine lv_aload_n hx hb dL_hear_3 rfl (lv_at hl 0 rfl) ?_
    refine lv_iload_n hx hb dL_hear_4 rfl (lv_at hl 1 rfl) ?_
    refine lv_iload_n hx hb dL_hear_5 rfl (lv_at hl 2 rfl) ?_
    refine lv_iload_n hx hb dL_hear_6 rfl (lv_at hl 3 rfl) ?_
    refine R_tVc (rest := [.int 0, .ref (gR G 186)]) (As := [.int a1, .int a2, .int a3]) C hd (ccX9_hear l G hst hf) kL_86 rfl (by decide) (rfl : kd 0 = 9) hl.1 ⟨by decide, by decide⟩ rfl rfl (Nat.le_of_ble_eq_true rfl) dL_hear_7 ⟨by decide, by decide⟩ ?_ ?_
    · intro en hen ce q9 H1 locs1 hd1 hce hcv hcl9
      subst hen
      by_cases c1 : en = 1
      · subst c1
        refine vx_catch (own := RL) (name := nNS) C.1.2.2.2.1 [] ⟨0, 12, 15, 18⟩ [] ht (fun z hz => nomatch hz) (by decide) (by decide) (C.1.2.2.2.2 _ wd809) (C.cst 1) hce hcv hcl9 ?_
        refine lv_astore hx hb dL_hear_15 hl (by decide) rfl (fun ls hl => ?_)
        refine lv_iconst hx hb dL_hear_17 rfl ?_
        exact R_iret C hr hd1 h dL_hear_18
      · exfalso
        exact fC_1 c1 h
    · intro v hv H1 locs1 hd1
      subst hv
      refine lv_i2l hx hb dL_hear_10 rfl ?_
      refine R_last (v := v) C hd1 dL_hear_11 (fun H2 locs2 hd2 => ?_)
      refine lv_goto (tgt := 19) hx hb dL_hear_12 (by decide) ?_
      refine lv_iconst hx hb dL_hear_19 rfl ?_
      exact R_iret C hr hd2 h dL_hear_20
set_option maxRecDepth 20000 in
theorem ccL_hear (l : Launch) (G : Gt) (hst : l.stackTraces = false) {a1 : Int32} {a2 : Int32} {a3 : Int32} {S : St} {res : Int32 × St} (h : fC (some 1) none false (fX9_hear a1 a2 a3 S) = some res) : Met l yL_hear (wmH yL_hear cL_hear 6 (some .int) [(0, 12, 15, 18)]) (rmL 8 2 12) (PcW G S [.ref (gR G 0), .int a1, .int a2, .int a3, .ref (gR G 186)]) (QI G res.1 res.2) 2 12 (Ab G) := by
  refine Mt_ofWH (cc := cL_hear) (maxL := 6) (ret := (some .int)) (hh := [(0, 12, 15, 18)]) (by decide) rfl ?_
  intro p e s m args below meth c s₁ B hml ht hv
  obtain ⟨rfl, hK, hP⟩ := hv
  have C : Cx p s m _ meth c cL_hear 6 RL G := ⟨⟨B.exec, B.bytes, hml, findClass_of_methodNamed B.named, fun w hw => atoms_spec (ws := wmH yL_hear cL_hear 6 (some .int) [(0, 12, 15, 18)]) B.pre w (List.mem_cons_of_mem _ hw)⟩, B.notSynchronized, hK⟩
  have hl := lv_entry ([.ref (gR G 0), .int a1, .int a2, .int a3, .ref (gR G 186)]) (n := 6) (Nat.le_of_ble_eq_true rfl)
  rw [lg_entry_eq]
  generalize (lg_sl ([.ref (gR G 0), .int a1, .int a2, .int a3, .ref (gR G 186)]) ++ List.replicate (6 - (lg_sl ([.ref (gR G 0), .int a1, .int a2, .int a3, .ref (gR G 186)])).length) Slot.unset).toArray = ls at hl ⊢
  exact sL_hear C B.returns ht hst ⟨hP, va_S.rf⟩ hl h
theorem dL_otherwise_0 : decode cL_otherwise 0 = .ok (.aload_n 2, 1) := by decide +kernel
theorem dL_otherwise_1 : decode cL_otherwise 1 = .ok (.iconst 0, 1) := by decide +kernel
theorem dL_otherwise_2 : decode cL_otherwise 2 = .ok (.aload_n 0, 1) := by decide +kernel
theorem dL_otherwise_3 : decode cL_otherwise 3 = .ok (.iload_n 1, 1) := by decide +kernel
theorem dL_otherwise_4 : decode cL_otherwise 4 = .ok (.invokevirtual 89, 3) := by decide +kernel
theorem dL_otherwise_7 : decode cL_otherwise 7 = .ok (.i2l, 1) := by decide +kernel
theorem dL_otherwise_8 : decode cL_otherwise 8 = .ok (.lastore, 1) := by decide +kernel
theorem dL_otherwise_9 : decode cL_otherwise 9 = .ok (.goto 6, 3) := by decide +kernel
theorem dL_otherwise_12 : decode cL_otherwise 12 = .ok (.astore_n 3, 1) := by decide +kernel
theorem dL_otherwise_13 : decode cL_otherwise 13 = .ok (.iconst 1, 1) := by decide +kernel
theorem dL_otherwise_14 : decode cL_otherwise 14 = .ok (.ireturn, 1) := by decide +kernel
theorem dL_otherwise_15 : decode cL_otherwise 15 = .ok (.iconst 0, 1) := by decide +kernel
theorem dL_otherwise_16 : decode cL_otherwise 16 = .ok (.ireturn, 1) := by decide +kernel
theorem kL_89 : CV RL 89 RX9 yX9_otherwise cX9_otherwise 2 (some .int) 1 := ⟨wsV_gt wd1072 wd1073 wd1074 wd1 wd1075, by decide +kernel⟩
set_option maxHeartbeats 4000000 in
set_option maxRecDepth 20000 in
theorem sL_otherwise (C : Cx p s m args meth c cL_otherwise 4 RL G) (hr : meth.sig.returnType = some .int) (ht : c.exceptionTable.toList = tableOf [(0, 9, 12, 18)]) (hst : l.stackTraces = false) {a1 : Int32} {S : St} {res : Int32 × St} {H : Heap} {locs : List Loc} {ls : Array Slot} (hd : Dy G S s H locs) (hl : lv_has ls 4 [(0, .ref (gR G 0)), (1, .int a1), (2, .ref (gR G 186))]) (h : fC (some 1) none false (fX9_otherwise a1 S) = some res) : W p l e (rmL 10 1 6) s m args below meth c H locs 0 0 (MQ below (QI G res.1 res.2) args s 1 6 (Ab G)) (F0 m 0 ls []) := by
  have hx := C.1.1
  have hb := C.1.2.1
  cases hf : fX9_otherwise a1 S with
  | none => rw [hf] at h; cases h
  | some w0 =>
    obtain ⟨w, S1⟩ := w0
    rw [hf] at h
    refine lv_aload_n hx hb dL_otherwise_0 rfl (lv_at hl 2 rfl) ?_
    refine lv_iconst hx hb dL_otherwise_1 rfl ?_
    refine lv_aload_n hx hb dL_otherwise_2 rfl (lv_at hl 0 rfl) ?_
    refine lv_iload_n hx hb dL_otherwise_3 rfl (lv_at hl 1 rfl) ?_
    refine R_tVc (rest := [.int 0, .ref (gR G 186)]) (As := [.int a1]) C hd (ccX9_otherwise l G hst hf) kL_89 rfl (by decide) (rfl : kd 0 = 9) hl.1 ⟨by decide, by decide⟩ rfl rfl (Nat.le_of_ble_eq_true rfl) dL_otherwise_4 ⟨by decide, by decide⟩ ?_ ?_
    · intro en hen ce q9 H1 locs1 hd1 hce hcv hcl9
      subst hen
      by_cases c1 : en = 1
      · subst c1
        refine vx_catch (own := RL) (name := nNS) C.1.2.2.2.1 [] ⟨0, 9, 12, 18⟩ [] ht (fun z hz => nomatch hz) (by decide) (by decide) (C.1.2.2.2.2 _ wd809) (C.cst 1) hce hcv hcl9 ?_
        refine lv_astore_n hx hb dL_otherwise_12 rfl hl (by decide) rfl (fun ls hl => ?_)
        refine lv_iconst hx hb dL_otherwise_13 rfl ?_
        exact R_iret C hr hd1 h dL_otherwise_14
      · exfalso
        exact fC_1 c1 h
    · intro v hv H1 locs1 hd1
      subst hv
      refine lv_i2l hx hb dL_otherwise_7 rfl ?_
      refine R_last (v := v) C hd1 dL_otherwise_8 (fun H2 locs2 hd2 => ?_)
      refine lv_goto (tgt := 15) hx hb dL_otherwise_9 (by decide) ?_
      refine lv_iconst hx hb dL_otherwise_15 rfl ?_
      exact R_iret C hr hd2 h dL_otherwise_16
set_option maxRecDepth 20000 in
theorem ccL_otherwise (l : Launch) (G : Gt) (hst : l.stackTraces = false) {a1 : Int32} {S : St} {res : Int32 × St} (h : fC (some 1) none false (fX9_otherwise a1 S) = some res) : Met l yL_otherwise (wmH yL_otherwise cL_otherwise 4 (some .int) [(0, 9, 12, 18)]) (rmL 10 1 6) (PcW G S [.ref (gR G 0), .int a1, .ref (gR G 186)]) (QI G res.1 res.2) 1 6 (Ab G) := by
  refine Mt_ofWH (cc := cL_otherwise) (maxL := 4) (ret := (some .int)) (hh := [(0, 9, 12, 18)]) (by decide) rfl ?_
  intro p e s m args below meth c s₁ B hml ht hv
  obtain ⟨rfl, hK, hP⟩ := hv
  have C : Cx p s m _ meth c cL_otherwise 4 RL G := ⟨⟨B.exec, B.bytes, hml, findClass_of_methodNamed B.named, fun w hw => atoms_spec (ws := wmH yL_otherwise cL_otherwise 4 (some .int) [(0, 9, 12, 18)]) B.pre w (List.mem_cons_of_mem _ hw)⟩, B.notSynchronized, hK⟩
  have hl := lv_entry ([.ref (gR G 0), .int a1, .ref (gR G 186)]) (n := 4) (Nat.le_of_ble_eq_true rfl)
  rw [lg_entry_eq]
  generalize (lg_sl ([.ref (gR G 0), .int a1, .ref (gR G 186)]) ++ List.replicate (4 - (lg_sl ([.ref (gR G 0), .int a1, .ref (gR G 186)])).length) Slot.unset).toArray = ls at hl ⊢
  exact sL_otherwise C B.returns ht hst ⟨hP, va_S.rf⟩ hl h
theorem dL_listen_0 : decode cL_listen 0 = .ok (.aload_n 2, 1) := by decide +kernel
theorem dL_listen_1 : decode cL_listen 1 = .ok (.iconst 0, 1) := by decide +kernel
theorem dL_listen_2 : decode cL_listen 2 = .ok (.aload_n 0, 1) := by decide +kernel
theorem dL_listen_3 : decode cL_listen 3 = .ok (.iload_n 1, 1) := by decide +kernel
theorem dL_listen_4 : decode cL_listen 4 = .ok (.invokevirtual 92, 3) := by decide +kernel
theorem dL_listen_7 : decode cL_listen 7 = .ok (.i2l, 1) := by decide +kernel
theorem dL_listen_8 : decode cL_listen 8 = .ok (.lastore, 1) := by decide +kernel
theorem dL_listen_9 : decode cL_listen 9 = .ok (.goto 6, 3) := by decide +kernel
theorem dL_listen_12 : decode cL_listen 12 = .ok (.astore_n 3, 1) := by decide +kernel
theorem dL_listen_13 : decode cL_listen 13 = .ok (.iconst 1, 1) := by decide +kernel
theorem dL_listen_14 : decode cL_listen 14 = .ok (.ireturn, 1) := by decide +kernel
theorem dL_listen_15 : decode cL_listen 15 = .ok (.iconst 0, 1) := by decide +kernel
theorem dL_listen_16 : decode cL_listen 16 = .ok (.ireturn, 1) := by decide +kernel
theorem kL_92 : CV RL 92 RX9 yX9_listen cX9_listen 3 (some .int) 1 := ⟨wsV_gt wd1113 wd1114 wd1115 wd1 wd1116, by decide +kernel⟩
set_option maxHeartbeats 4000000 in
set_option maxRecDepth 20000 in
theorem sL_listen (C : Cx p s m args meth c cL_listen 4 RL G) (hr : meth.sig.returnType = some .int) (ht : c.exceptionTable.toList = tableOf [(0, 9, 12, 18)]) (hst : l.stackTraces = false) {a1 : Int32} {S : St} {res : Int32 × St} {H : Heap} {locs : List Loc} {ls : Array Slot} (hd : Dy G S s H locs) (hl : lv_has ls 4 [(0, .ref (gR G 0)), (1, .int a1), (2, .ref (gR G 186))]) (h : fC (some 1) none false (fX9_listen a1 S) = some res) : W p l e (rmL 10 1 6) s m args below meth c H locs 0 0 (MQ below (QI G res.1 res.2) args s 1 6 (Ab G)) (F0 m 0 ls []) := by
  have hx := C.1.1
  have hb := C.1.2.1
  cases hf : fX9_listen a1 S with
  | none => rw [hf] at h; cases h
  | some w0 =>
    obtain ⟨w, S1⟩ := w0
    rw [hf] at h
    refine lv_aload_n hx hb dL_listen_0 rfl (lv_at hl 2 rfl) ?_
    refine lv_iconst hx hb dL_listen_1 rfl ?_
    refine lv_aload_n hx hb dL_listen_2 rfl (lv_at hl 0 rfl) ?_
    refine lv_iload_n hx hb dL_listen_3 rfl (lv_at hl 1 rfl) ?_
    refine R_tVc (rest := [.int 0, .ref (gR G 186)]) (As := [.int a1]) C hd (ccX9_listen l G hst hf) kL_92 rfl (by decide) (rfl : kd 0 = 9) hl.1 ⟨by decide, by decide⟩ rfl rfl (Nat.le_of_ble_eq_true rfl) dL_listen_4 ⟨by decide, by decide⟩ ?_ ?_
    · intro en hen ce q9 H1 locs1 hd1 hce hcv hcl9
      subst hen
      by_cases c1 : en = 1
      · subst c1
        refine vx_catch (own := RL) (name := nNS) C.1.2.2.2.1 [] ⟨0, 9, 12, 18⟩ [] ht (fun z hz => nomatch hz) (by decide) (by decide) (C.1.2.2.2.2 _ wd809) (C.cst 1) hce hcv hcl9 ?_
        refine lv_astore_n hx hb dL_listen_12 rfl hl (by decide) rfl (fun ls hl => ?_)
        refine lv_iconst hx hb dL_listen_13 rfl ?_
        exact R_iret C hr hd1 h dL_listen_14
      · exfalso
        exact fC_1 c1 h
    · intro v hv H1 locs1 hd1
      subst hv
      refine lv_i2l hx hb dL_listen_7 rfl ?_
      refine R_last (v := v) C hd1 dL_listen_8 (fun H2 locs2 hd2 => ?_)
      refine lv_goto (tgt := 15) hx hb dL_listen_9 (by decide) ?_
      refine lv_iconst hx hb dL_listen_15 rfl ?_
      exact R_iret C hr hd2 h dL_listen_16
set_option maxRecDepth 20000 in
theorem ccL_listen (l : Launch) (G : Gt) (hst : l.stackTraces = false) {a1 : Int32} {S : St} {res : Int32 × St} (h : fC (some 1) none false (fX9_listen a1 S) = some res) : Met l yL_listen (wmH yL_listen cL_listen 4 (some .int) [(0, 9, 12, 18)]) (rmL 10 1 6) (PcW G S [.ref (gR G 0), .int a1, .ref (gR G 186)]) (QI G res.1 res.2) 1 6 (Ab G) := by
  refine Mt_ofWH (cc := cL_listen) (maxL := 4) (ret := (some .int)) (hh := [(0, 9, 12, 18)]) (by decide) rfl ?_
  intro p e s m args below meth c s₁ B hml ht hv
  obtain ⟨rfl, hK, hP⟩ := hv
  have C : Cx p s m _ meth c cL_listen 4 RL G := ⟨⟨B.exec, B.bytes, hml, findClass_of_methodNamed B.named, fun w hw => atoms_spec (ws := wmH yL_listen cL_listen 4 (some .int) [(0, 9, 12, 18)]) B.pre w (List.mem_cons_of_mem _ hw)⟩, B.notSynchronized, hK⟩
  have hl := lv_entry ([.ref (gR G 0), .int a1, .ref (gR G 186)]) (n := 4) (Nat.le_of_ble_eq_true rfl)
  rw [lg_entry_eq]
  generalize (lg_sl ([.ref (gR G 0), .int a1, .ref (gR G 186)]) ++ List.replicate (4 - (lg_sl ([.ref (gR G 0), .int a1, .ref (gR G 186)])).length) Slot.unset).toArray = ls at hl ⊢
  exact sL_listen C B.returns ht hst ⟨hP, va_S.rf⟩ hl h
theorem dL_game_0 : decode cL_game 0 = .ok (.aload 5, 2) := by decide +kernel
theorem dL_game_2 : decode cL_game 2 = .ok (.iconst 0, 1) := by decide +kernel
theorem dL_game_3 : decode cL_game 3 = .ok (.aload_n 0, 1) := by decide +kernel
theorem dL_game_4 : decode cL_game 4 = .ok (.iload_n 1, 1) := by decide +kernel
theorem dL_game_5 : decode cL_game 5 = .ok (.iload_n 2, 1) := by decide +kernel
theorem dL_game_6 : decode cL_game 6 = .ok (.iload_n 3, 1) := by decide +kernel
theorem dL_game_7 : decode cL_game 7 = .ok (.iload 4, 2) := by decide +kernel
theorem dL_game_9 : decode cL_game 9 = .ok (.invokevirtual 95, 3) := by decide +kernel
theorem dL_game_12 : decode cL_game 12 = .ok (.i2l, 1) := by decide +kernel
theorem dL_game_13 : decode cL_game 13 = .ok (.lastore, 1) := by decide +kernel
theorem dL_game_14 : decode cL_game 14 = .ok (.goto 11, 3) := by decide +kernel
theorem dL_game_17 : decode cL_game 17 = .ok (.astore 6, 2) := by decide +kernel
theorem dL_game_19 : decode cL_game 19 = .ok (.iconst 1, 1) := by decide +kernel
theorem dL_game_20 : decode cL_game 20 = .ok (.ireturn, 1) := by decide +kernel
theorem dL_game_21 : decode cL_game 21 = .ok (.astore 6, 2) := by decide +kernel
theorem dL_game_23 : decode cL_game 23 = .ok (.iconst 2, 1) := by decide +kernel
theorem dL_game_24 : decode cL_game 24 = .ok (.ireturn, 1) := by decide +kernel
theorem dL_game_25 : decode cL_game 25 = .ok (.iconst 0, 1) := by decide +kernel
theorem dL_game_26 : decode cL_game 26 = .ok (.ireturn, 1) := by decide +kernel
theorem kL_95 : CV RL 95 RX9 yX9_game cX9_game 8 (some .int) 4 := ⟨wsV_gt wd1126 wd1127 wd1128 wd1 wd1129, by decide +kernel⟩
set_option maxHeartbeats 4000000 in
set_option maxRecDepth 20000 in
theorem sL_game (C : Cx p s m args meth c cL_game 7 RL G) (hr : meth.sig.returnType = some .int) (ht : c.exceptionTable.toList = tableOf [(0, 14, 17, 18), (0, 14, 21, 13)]) (hst : l.stackTraces = false) {a1 : Int32} {a2 : Int32} {a3 : Int32} {a4 : Int32} {S : St} {res : Int32 × St} {H : Heap} {locs : List Loc} {ls : Array Slot} (hd : Dy G S s H locs) (hl : lv_has ls 7 [(0, .ref (gR G 0)), (1, .int a1), (2, .int a2), (3, .int a3), (4, .int a4), (5, .ref (gR G 186))]) (h : fC (some 1) (some 2) false (fX9_game a1 a2 a3 a4 S) = some res) : W p l e (rmL 8 5 30) s m args below meth c H locs 0 0 (MQ below (QI G res.1 res.2) args s 5 30 (Ab G)) (F0 m 0 ls []) := by
  have hx := C.1.1
  have hb := C.1.2.1
  cases hf : fX9_game a1 a2 a3 a4 S with
  | none => rw [hf] at h; cases h
  | some w0 =>
    obtain ⟨w, S1⟩ := w0
    rw [hf] at h
    refine lv_aload hx hb dL_game_0 (lv_at hl 5 rfl) ?_
    refine lv_iconst hx hb dL_game_2 rfl ?_
    refine lv_aload_n hx hb dL_game_3 rfl (lv_at hl 0 rfl) ?_
    refine lv_iload_n hx hb dL_game_4 rfl (lv_at hl 1 rfl) ?_
    refine lv_iload_n hx hb dL_game_5 rfl (lv_at hl 2 rfl) ?_
    refine lv_iload_n hx hb dL_game_6 rfl (lv_at hl 3 rfl) ?_
    refine lv_iload hx hb dL_game_7 (lv_at hl 4 rfl) ?_
    refine R_tVc (rest := [.int 0, .ref (gR G 186)]) (As := [.int a1, .int a2, .int a3, .int a4]) C hd (ccX9_game l G hst hf) kL_95 rfl (by decide) (rfl : kd 0 = 9) hl.1 ⟨by decide, by decide⟩ rfl rfl (Nat.le_of_ble_eq_true rfl) dL_game_9 ⟨by decide, by decide⟩ ?_ ?_
    · intro en hen ce q9 H1 locs1 hd1 hce hcv hcl9
      subst hen
      by_cases c1 : en = 1
      · subst c1
        refine vx_catch (own := RL) (name := nNS) C.1.2.2.2.1 [] ⟨0, 14, 17, 18⟩ [⟨0, 14, 21, 13⟩] ht (fun z hz => nomatch hz) (by decide) (by decide) (C.1.2.2.2.2 _ wd809) (C.cst 1) hce hcv hcl9 ?_
        refine lv_astore hx hb dL_game_17 hl (by decide) rfl (fun ls hl => ?_)
        refine lv_iconst hx hb dL_game_19 rfl ?_
        exact R_iret C hr hd1 h dL_game_20
      by_cases c2 : en = 2
      · subst c2
        refine vx_catch (own := RL) (name := nIA) C.1.2.2.2.1 [⟨0, 14, 17, 18⟩] ⟨0, 14, 21, 13⟩ [] ht (fun z hz => by cases List.mem_singleton.mp hz; exact Or.inr ⟨by decide, nNS, C.1.2.2.2.2 _ wd809, C.ncs⟩) (by decide) (by decide) (C.1.2.2.2.2 _ wd516) (C.cst 2) hce hcv hcl9 ?_
        refine lv_astore hx hb dL_game_21 hl (by decide) rfl (fun ls hl => ?_)
        refine lv_iconst hx hb dL_game_23 rfl ?_
        exact R_iret C hr hd1 h dL_game_24
      · exfalso
        exact fC_12 c1 c2 h
    · intro v hv H1 locs1 hd1
      subst hv
      refine lv_i2l hx hb dL_game_12 rfl ?_
      refine R_last (v := v) C hd1 dL_game_13 (fun H2 locs2 hd2 => ?_)
      refine lv_goto (tgt := 25) hx hb dL_game_14 (by decide) ?_
      refine lv_iconst hx hb dL_game_25 rfl ?_
      exact R_iret C hr hd2 h dL_game_26
set_option maxRecDepth 20000 in
theorem ccL_game (l : Launch) (G : Gt) (hst : l.stackTraces = false) {a1 : Int32} {a2 : Int32} {a3 : Int32} {a4 : Int32} {S : St} {res : Int32 × St} (h : fC (some 1) (some 2) false (fX9_game a1 a2 a3 a4 S) = some res) : Met l yL_game (wmH yL_game cL_game 7 (some .int) [(0, 14, 17, 18), (0, 14, 21, 13)]) (rmL 8 5 30) (PcW G S [.ref (gR G 0), .int a1, .int a2, .int a3, .int a4, .ref (gR G 186)]) (QI G res.1 res.2) 5 30 (Ab G) := by
  refine Mt_ofWH (cc := cL_game) (maxL := 7) (ret := (some .int)) (hh := [(0, 14, 17, 18), (0, 14, 21, 13)]) (by decide) rfl ?_
  intro p e s m args below meth c s₁ B hml ht hv
  obtain ⟨rfl, hK, hP⟩ := hv
  have C : Cx p s m _ meth c cL_game 7 RL G := ⟨⟨B.exec, B.bytes, hml, findClass_of_methodNamed B.named, fun w hw => atoms_spec (ws := wmH yL_game cL_game 7 (some .int) [(0, 14, 17, 18), (0, 14, 21, 13)]) B.pre w (List.mem_cons_of_mem _ hw)⟩, B.notSynchronized, hK⟩
  have hl := lv_entry ([.ref (gR G 0), .int a1, .int a2, .int a3, .int a4, .ref (gR G 186)]) (n := 7) (Nat.le_of_ble_eq_true rfl)
  rw [lg_entry_eq]
  generalize (lg_sl ([.ref (gR G 0), .int a1, .int a2, .int a3, .int a4, .ref (gR G 186)]) ++ List.replicate (7 - (lg_sl ([.ref (gR G 0), .int a1, .int a2, .int a3, .int a4, .ref (gR G 186)])).length) Slot.unset).toArray = ls at hl ⊢
  exact sL_game C B.returns ht hst ⟨hP, va_S.rf⟩ hl h
theorem dL_larks_0 : decode cL_larks 0 = .ok (.aload 4, 2) := by decide +kernel
theorem dL_larks_2 : decode cL_larks 2 = .ok (.iconst 0, 1) := by decide +kernel
theorem dL_larks_3 : decode cL_larks 3 = .ok (.aload_n 0, 1) := by decide +kernel
theorem dL_larks_4 : decode cL_larks 4 = .ok (.iload_n 1, 1) := by decide +kernel
theorem dL_larks_5 : decode cL_larks 5 = .ok (.iload_n 2, 1) := by decide +kernel
theorem dL_larks_6 : decode cL_larks 6 = .ok (.iload_n 3, 1) := by decide +kernel
theorem dL_larks_7 : decode cL_larks 7 = .ok (.invokevirtual 99, 3) := by decide +kernel
theorem dL_larks_10 : decode cL_larks 10 = .ok (.i2l, 1) := by decide +kernel
theorem dL_larks_11 : decode cL_larks 11 = .ok (.lastore, 1) := by decide +kernel
theorem dL_larks_12 : decode cL_larks 12 = .ok (.goto 11, 3) := by decide +kernel
theorem dL_larks_15 : decode cL_larks 15 = .ok (.astore 5, 2) := by decide +kernel
theorem dL_larks_17 : decode cL_larks 17 = .ok (.iconst 1, 1) := by decide +kernel
theorem dL_larks_18 : decode cL_larks 18 = .ok (.ireturn, 1) := by decide +kernel
theorem dL_larks_19 : decode cL_larks 19 = .ok (.astore 5, 2) := by decide +kernel
theorem dL_larks_21 : decode cL_larks 21 = .ok (.iconst 2, 1) := by decide +kernel
theorem dL_larks_22 : decode cL_larks 22 = .ok (.ireturn, 1) := by decide +kernel
theorem dL_larks_23 : decode cL_larks 23 = .ok (.iconst 0, 1) := by decide +kernel
theorem dL_larks_24 : decode cL_larks 24 = .ok (.ireturn, 1) := by decide +kernel
theorem kL_99 : CV RL 99 RX9 yX9_larks cX9_larks 4 (some .int) 3 := ⟨wsV_gt wd1144 wd1145 wd1146 wd1 wd1147, by decide +kernel⟩
set_option maxHeartbeats 4000000 in
set_option maxRecDepth 20000 in
theorem sL_larks (C : Cx p s m args meth c cL_larks 6 RL G) (hr : meth.sig.returnType = some .int) (ht : c.exceptionTable.toList = tableOf [(0, 12, 15, 18), (0, 12, 19, 13)]) (hst : l.stackTraces = false) {a1 : Int32} {a2 : Int32} {a3 : Int32} {S : St} {res : Int32 × St} {H : Heap} {locs : List Loc} {ls : Array Slot} (hd : Dy G S s H locs) (hl : lv_has ls 6 [(0, .ref (gR G 0)), (1, .int a1), (2, .int a2), (3, .int a3), (4, .ref (gR G 186))]) (h : fC (some 1) (some 2) false (fX9_larks a1 a2 a3 S) = some res) : W p l e (rmL 9 2 12) s m args below meth c H locs 0 0 (MQ below (QI G res.1 res.2) args s 2 12 (Ab G)) (F0 m 0 ls []) := by
  have hx := C.1.1
  have hb := C.1.2.1
  cases hf : fX9_larks a1 a2 a3 S with
  | none => rw [hf] at h; cases h
  | some w0 =>
    obtain ⟨w, S1⟩ := w0
    rw [hf] at h
    refine lv_aload hx hb dL_larks_0 (lv_at hl 4 rfl) ?_
    refine lv_iconst hx hb dL_larks_2 rfl ?_
    refine lv_aload_n hx hb dL_larks_3 rfl (lv_at hl 0 rfl) ?_
    refine lv_iload_n hx hb dL_larks_4 rfl (lv_at hl 1 rfl) ?_
    refine lv_iload_n hx hb dL_larks_5 rfl (lv_at hl 2 rfl) ?_
    refine lv_iload_n hx hb dL_larks_6 rfl (lv_at hl 3 rfl) ?_
    refine R_tVc (rest := [.int 0, .ref (gR G 186)]) (As := [.int a1, .int a2, .int a3]) C hd (ccX9_larks l G hst hf) kL_99 rfl (by decide) (rfl : kd 0 = 9) hl.1 ⟨by decide, by decide⟩ rfl rfl (Nat.le_of_ble_eq_true rfl) dL_larks_7 ⟨by decide, by decide⟩ ?_ ?_
    · intro en hen ce q9 H1 locs1 hd1 hce hcv hcl9
      subst hen
      by_cases c1 : en = 1
      · subst c1
        refine vx_catch (own := RL) (name := nNS) C.1.2.2.2.1 [] ⟨0, 12, 15, 18⟩ [⟨0, 12, 19, 13⟩] ht (fun z hz => nomatch hz) (by decide) (by decide) (C.1.2.2.2.2 _ wd809) (C.cst 1) hce hcv hcl9 ?_
        refine lv_astore hx hb dL_larks_15 hl (by decide) rfl (fun ls hl => ?_)
        refine lv_iconst hx hb dL_larks_17 rfl ?_
        exact R_iret C hr hd1 h dL_larks_18
      by_cases c2 : en = 2
      · subst c2
        refine vx_catch (own := RL) (name := nIA) C.1.2.2.2.1 [⟨0, 12, 15, 18⟩] ⟨0, 12, 19, 13⟩ [] ht (fun z hz => by cases List.mem_singleton.mp hz; exact Or.inr ⟨by decide, nNS, C.1.2.2.2.2 _ wd809, C.ncs⟩) (by decide) (by decide) (C.1.2.2.2.2 _ wd516) (C.cst 2) hce hcv hcl9 ?_
        refine lv_astore hx hb dL_larks_19 hl (by decide) rfl (fun ls hl => ?_)
        refine lv_iconst hx hb dL_larks_21 rfl ?_
        exact R_iret C hr hd1 h dL_larks_22
      · exfalso
        exact fC_12 c1 c2 h
    · intro v hv H1 locs1 hd1
      subst hv
      refine lv_i2l hx hb dL_larks_10 rfl ?_
      refine R_last (v := v) C hd1 dL_larks_11 (fun H2 locs2 hd2 => ?_)
      refine lv_goto (tgt := 23) hx hb dL_larks_12 (by decide) ?_
      refine lv_iconst hx hb dL_larks_23 rfl ?_
      exact R_iret C hr hd2 h dL_larks_24
set_option maxRecDepth 20000 in
theorem ccL_larks (l : Launch) (G : Gt) (hst : l.stackTraces = false) {a1 : Int32} {a2 : Int32} {a3 : Int32} {S : St} {res : Int32 × St} (h : fC (some 1) (some 2) false (fX9_larks a1 a2 a3 S) = some res) : Met l yL_larks (wmH yL_larks cL_larks 6 (some .int) [(0, 12, 15, 18), (0, 12, 19, 13)]) (rmL 9 2 12) (PcW G S [.ref (gR G 0), .int a1, .int a2, .int a3, .ref (gR G 186)]) (QI G res.1 res.2) 2 12 (Ab G) := by
  refine Mt_ofWH (cc := cL_larks) (maxL := 6) (ret := (some .int)) (hh := [(0, 12, 15, 18), (0, 12, 19, 13)]) (by decide) rfl ?_
  intro p e s m args below meth c s₁ B hml ht hv
  obtain ⟨rfl, hK, hP⟩ := hv
  have C : Cx p s m _ meth c cL_larks 6 RL G := ⟨⟨B.exec, B.bytes, hml, findClass_of_methodNamed B.named, fun w hw => atoms_spec (ws := wmH yL_larks cL_larks 6 (some .int) [(0, 12, 15, 18), (0, 12, 19, 13)]) B.pre w (List.mem_cons_of_mem _ hw)⟩, B.notSynchronized, hK⟩
  have hl := lv_entry ([.ref (gR G 0), .int a1, .int a2, .int a3, .ref (gR G 186)]) (n := 6) (Nat.le_of_ble_eq_true rfl)
  rw [lg_entry_eq]
  generalize (lg_sl ([.ref (gR G 0), .int a1, .int a2, .int a3, .ref (gR G 186)]) ++ List.replicate (6 - (lg_sl ([.ref (gR G 0), .int a1, .int a2, .int a3, .ref (gR G 186)])).length) Slot.unset).toArray = ls at hl ⊢
  exact sL_larks C B.returns ht hst ⟨hP, va_S.rf⟩ hl h
end HLP
