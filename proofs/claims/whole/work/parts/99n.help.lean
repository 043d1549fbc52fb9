theorem fC_1 {z : Bool} {k : Int32} {en : Nat} {S : St} {res : Int32 × St} (h1 : ¬ en = 1) (h : fC (some k) none z (some (.inr en, S)) = some res) : False := by
  unfold fC at h
  dsimp only at h
  rw [if_neg h1] at h
  split at h <;> cases h
theorem fC_2 {z : Bool} {k : Int32} {en : Nat} {S : St} {res : Int32 × St} (h1 : ¬ en = 2) (h : fC none (some k) z (some (.inr en, S)) = some res) : False := by
  unfold fC at h
  dsimp only at h
  split at h
  · cases h
  · rw [if_neg h1] at h; cases h
theorem fC_12 {z : Bool} {k j : Int32} {en : Nat} {S : St} {res : Int32 × St} (h1 : ¬ en = 1) (h2 : ¬ en = 2) (h : fC (some k) (some j) z (some (.inr en, S)) = some res) : False := by
  unfold fC at h
  dsimp only at h
  rw [if_neg h1, if_neg h2] at h; cases h
section HLP
variable {p : Program} {l : Launch} {e : Env} {s : State} {m : MethodId} {args : Array Value} {below : List Frame} {meth : Method} {c : Code} {G : Gt}
theorem dL_valley_0 : decode cL_valley 0 = .ok (.aload_n 2, 1) := by decide +kernel
theorem dL_valley_1 : decode cL_valley 1 = .ok (.iconst 0, 1) := by decide +kernel
theorem dL_valley_2 : decode cL_valley 2 = .ok (.aload_n 0, 1) := by decide +kernel
theorem dL_valley_3 : decode cL_valley 3 = .ok (.iload_n 1, 1) := by decide +kernel
theorem dL_valley_4 : decode cL_valley 4 = .ok (.invokevirtual 7, 3) := by decide +kernel
theorem dL_valley_7 : decode cL_valley 7 = .ok (.i2l, 1) := by decide +kernel
theorem dL_valley_8 : decode cL_valley 8 = .ok (.lastore, 1) := by decide +kernel
theorem dL_valley_9 : decode cL_valley 9 = .ok (.goto 6, 3) := by decide +kernel
theorem dL_valley_12 : decode cL_valley 12 = .ok (.astore_n 3, 1) := by decide +kernel
theorem dL_valley_13 : decode cL_valley 13 = .ok (.iconst 1, 1) := by decide +kernel
theorem dL_valley_14 : decode cL_valley 14 = .ok (.ireturn, 1) := by decide +kernel
theorem dL_valley_15 : decode cL_valley 15 = .ok (.iconst 0, 1) := by decide +kernel
theorem dL_valley_16 : decode cL_valley 16 = .ok (.ireturn, 1) := by decide +kernel
theorem kL_7 : CV RL 7 RX9 yX9_valley cX9_valley 4 (some .int) 1 := ⟨wsV_gt wd517 wd518 wd519 wd1 wd520, by decide +kernel⟩
set_option maxHeartbeats 4000000 in
set_option maxRecDepth 20000 in
theorem sL_valley (C : Cx p s m args meth c cL_valley 4 RL G) (hr : meth.sig.returnType = some .int) (ht : c.exceptionTable.toList = tableOf [(0, 9, 12, 13)]) (hst : l.stackTraces = false) {a1 : Int32} {S : St} {res : Int32 × St} {H : Heap} {locs : List Loc} {ls : Array Slot} (hd : Dy G S s H locs) (hl : lv_has ls 4 [(0, .ref (gR G 0)), (1, .int a1), (2, .ref (gR G 186))]) (h : fC none (some 1) false (fX9_valley a1 S) = some res) : W p l e (rmL 13 1 6) s m args below meth c H locs 0 0 (MQ below (QI G res.1 res.2) args s 1 6 (Ab G)) (F0 m 0 ls []) := by
  have hx := C.1.1
  have hb := C.1.2.1
  cases hf : fX9_valley a1 S with
  | none => rw [hf] at h; cases h
  | some w0 =>
    obtain ⟨w, S1⟩ := w0
    rw [hf] at h
    refine lv_aload_n hx hb dL_valley_0 rfl (lv_at hl 2 rfl) ?_
    refine lv_iconst hx hb dL_valley_1 rfl ?_
    refine lv_aload_n hx hb dL_valley_2 rfl (lv_at hl 0 rfl) ?_
    refine lv_iload_n hx hb dL_valley_3 rfl (lv_at hl 1 rfl) ?_
    refine R_tVc (rest := [.int 0, .ref (gR G 186)]) (As := [.int a1]) C hd (ccX9_valley l G hst hf) kL_7 rfl (by decide) (rfl : kd 0 = 9) hl.1 ⟨by decide, by decide⟩ rfl rfl (Nat.le_of_ble_eq_true rfl) dL_valley_4 ⟨by decide, by decide⟩ ?_ ?_
    · intro en hen ce q9 H1 locs1 hd1 hce hcv hcl9
      subst hen
      by_cases c2 : en = 2
      · subst c2
        refine vx_catch (own := RL) (name := nIA) C.1.2.2.2.1 [] ⟨0, 9, 12, 13⟩ [] ht (fun z hz => nomatch hz) (by decide) (by decide) (C.1.2.2.2.2 _ wd516) (C.cst 2) hce hcv hcl9 ?_
        refine lv_astore_n hx hb dL_valley_12 rfl hl (by decide) rfl (fun ls hl => ?_)
        refine lv_iconst hx hb dL_valley_13 rfl ?_
        exact R_iret C hr hd1 h dL_valley_14
      · exfalso
        exact fC_2 c2 h
    · intro v hv H1 locs1 hd1
      subst hv
      refine lv_i2l hx hb dL_valley_7 rfl ?_
      refine R_last (v := v) C hd1 dL_valley_8 (fun H2 locs2 hd2 => ?_)
      refine lv_goto (tgt := 15) hx hb dL_valley_9 (by decide) ?_
      refine lv_iconst hx hb dL_valley_15 rfl ?_
      exact R_iret C hr hd2 h dL_valley_16
set_option maxRecDepth 20000 in
theorem ccL_valley (l : Launch) (G : Gt) (hst : l.stackTraces = false) {a1 : Int32} {S : St} {res : Int32 × St} (h : fC none (some 1) false (fX9_valley a1 S) = some res) : Met l yL_valley (wmH yL_valley cL_valley 4 (some .int) [(0, 9, 12, 13)]) (rmL 13 1 6) (PcW G S [.ref (gR G 0), .int a1, .ref (gR G 186)]) (QI G res.1 res.2) 1 6 (Ab G) := by
  refine Mt_ofWH (cc := cL_valley) (maxL := 4) (ret := (some .int)) (hh := [(0, 9, 12, 13)]) (by decide) rfl ?_
  intro p e s m args below meth c s₁ B hml ht hv
  obtain ⟨rfl, hK, hP⟩ := hv
  have C : Cx p s m _ meth c cL_valley 4 RL G := ⟨⟨B.exec, B.bytes, hml, findClass_of_methodNamed B.named, fun w hw => atoms_spec (ws := wmH yL_valley cL_valley 4 (some .int) [(0, 9, 12, 13)]) B.pre w (List.mem_cons_of_mem _ hw)⟩, B.notSynchronized, hK⟩
  have hl := lv_entry ([.ref (gR G 0), .int a1, .ref (gR G 186)]) (n := 4) (Nat.le_of_ble_eq_true rfl)
  rw [lg_entry_eq]
  generalize (lg_sl ([.ref (gR G 0), .int a1, .ref (gR G 186)]) ++ List.replicate (4 - (lg_sl ([.ref (gR G 0), .int a1, .ref (gR G 186)])).length) Slot.unset).toArray = ls at hl ⊢
  exact sL_valley C B.returns ht hst ⟨hP, va_S.rf⟩ hl h
theorem dL_sung_0 : decode cL_sung 0 = .ok (.aload_n 3, 1) := by decide +kernel
theorem dL_sung_1 : decode cL_sung 1 = .ok (.iconst 0, 1) := by decide +kernel
theorem dL_sung_2 : decode cL_sung 2 = .ok (.aload_n 0, 1) := by decide +kernel
theorem dL_sung_3 : decode cL_sung 3 = .ok (.iload_n 1, 1) := by decide +kernel
theorem dL_sung_4 : decode cL_sung 4 = .ok (.iload_n 2, 1) := by decide +kernel
theorem dL_sung_5 : decode cL_sung 5 = .ok (.invokevirtual 50, 3) := by decide +kernel
theorem dL_sung_8 : decode cL_sung 8 = .ok (.i2l, 1) := by decide +kernel
theorem dL_sung_9 : decode cL_sung 9 = .ok (.lastore, 1) := by decide +kernel
theorem dL_sung_10 : decode cL_sung 10 = .ok (.goto 11, 3) := by decide +kernel
theorem dL_sung_13 : decode cL_sung 13 = .ok (.astore 4, 2) := by decide +kernel
theorem dL_sung_15 : decode cL_sung 15 = .ok (.iconst 1, 1) := by decide +kernel
theorem dL_sung_16 : decode cL_sung 16 = .ok (.ireturn, 1) := by decide +kernel
theorem dL_sung_17 : decode cL_sung 17 = .ok (.astore 4, 2) := by decide +kernel
theorem dL_sung_19 : decode cL_sung 19 = .ok (.iconst 2, 1) := by decide +kernel
theorem dL_sung_20 : decode cL_sung 20 = .ok (.ireturn, 1) := by decide +kernel
theorem dL_sung_21 : decode cL_sung 21 = .ok (.iconst 0, 1) := by decide +kernel
theorem dL_sung_22 : decode cL_sung 22 = .ok (.ireturn, 1) := by decide +kernel
theorem kL_50 : CV RL 50 RX9 yX9_sung cX9_sung 3 (some .int) 2 := ⟨wsV_gt wd928 wd929 wd930 wd1 wd931, by decide +kernel⟩
set_option maxHeartbeats 4000000 in
set_option maxRecDepth 20000 in
theorem sL_sung (C : Cx p s m args meth c cL_sung 5 RL G) (hr : meth.sig.returnType = some .int) (ht : c.exceptionTable.toList = tableOf [(0, 10, 13, 18), (0, 10, 17, 13)]) (hst : l.stackTraces = false) {a1 : Int32} {a2 : Int32} {S : St} {res : Int32 × St} {H : Heap} {locs : List Loc} {ls : Array Slot} (hd : Dy G S s H locs) (hl : lv_has ls 5 [(0, .ref (gR G 0)), (1, .int a1), (2, .int a2), (3, .ref (gR G 186))]) (h : fC (some 1) (some 2) false (fX9_sung a1 a2 S) = some res) : W p l e (rmL 9 2 12) s m args below meth c H locs 0 0 (MQ below (QI G res.1 res.2) args s 2 12 (Ab G)) (F0 m 0 ls []) := by
  have hx := C.1.1
  have hb := C.1.2.1
  cases hf : fX9_sung a1 a2 S with
  | none => rw [hf] at h; cases h
  | some w0 =>
    obtain ⟨w, S1⟩ := w0
    rw [hf] at h
    refine lv_aload_n hx hb dL_sung_0 rfl (lv_at hl 3 rfl) ?_
    refine lv_iconst hx hb dL_sung_1 rfl ?_
    refine lv_aload_n hx hb dL_sung_2 rfl (lv_at hl 0 rfl) ?_
    refine lv_iload_n hx hb dL_sung_3 rfl (lv_at hl 1 rfl) ?_
    refine lv_iload_n hx hb dL_sung_4 rfl (lv_at hl 2 rfl) ?_
    refine R_tVc (rest := [.int 0, .ref (gR G 186)]) (As := [.int a1, .int a2]) C hd (ccX9_sung l G hst hf) kL_50 rfl (by decide) (rfl : kd 0 = 9) hl.1 ⟨by decide, by decide⟩ rfl rfl (Nat.le_of_ble_eq_true rfl) dL_sung_5 ⟨by decide, by decide⟩ ?_ ?_
    · intro en hen ce q9 H1 locs1 hd1 hce hcv hcl9
      subst hen
      by_cases c1 : en = 1
      · subst c1
        refine vx_catch (own := RL) (name := nNS) C.1.2.2.2.1 [] ⟨0, 10, 13, 18⟩ [⟨0, 10, 17, 13⟩] ht (fun z hz => nomatch hz) (by decide) (by decide) (C.1.2.2.2.2 _ wd809) (C.cst 1) hce hcv hcl9 ?_
        refine lv_astore hx hb dL_sung_13 hl (by decide) rfl (fun ls hl => ?_)
        refine lv_iconst hx hb dL_sung_15 rfl ?_
        exact R_iret C hr hd1 h dL_sung_16
      by_cases c2 : en = 2
      · subst c2
        refine vx_catch (own := RL) (name := nIA) C.1.2.2.2.1 [⟨0, 10, 13, 18⟩] ⟨0, 10, 17, 13⟩ [] ht (fun z hz => by cases List.mem_singleton.mp hz; exact Or.inr ⟨by decide, nNS, C.1.2.2.2.2 _ wd809, C.ncs⟩) (by decide) (by decide) (C.1.2.2.2.2 _ wd516) (C.cst 2) hce hcv hcl9 ?_
        refine lv_astore hx hb dL_sung_17 hl (by decide) rfl (fun ls hl => ?_)
        refine lv_iconst hx hb dL_sung_19 rfl ?_
        exact R_iret C hr hd1 h dL_sung_20
      · exfalso
        exact fC_12 c1 c2 h
    · intro v hv H1 locs1 hd1
      subst hv
      refine lv_i2l hx hb dL_sung_8 rfl ?_
      refine R_last (v := v) C hd1 dL_sung_9 (fun H2 locs2 hd2 => ?_)
      refine lv_goto (tgt := 21) hx hb dL_sung_10 (by decide) ?_
      refine lv_iconst hx hb dL_sung_21 rfl ?_
      exact R_iret C hr hd2 h dL_sung_22
set_option maxRecDepth 20000 in
theorem ccL_sung (l : Launch) (G : Gt) (hst : l.stackTraces = false) {a1 : Int32} {a2 : Int32} {S : St} {res : Int32 × St} (h : fC (some 1) (some 2) false (fX9_sung a1 a2 S) = some res) : Met l yL_sung (wmH yL_sung cL_sung 5 (some .int) [(0, 10, 13, 18), (0, 10, 17, 13)]) (rmL 9 2 12) (PcW G S [.ref (gR G 0), .int a1, .int a2, .ref (gR G 186)]) (QI G res.1 res.2) 2 12 (Ab G) := by
  refine Mt_ofWH (cc := cL_sung) (maxL := 5) (ret := (some .int)) (hh := [(0, 10, 13, 18), (0, 10, 17, 13)]) (by decide) rfl ?_
  intro p e s m args below meth c s₁ B hml ht hv
  obtain ⟨rfl, hK, hP⟩ := hv
  have C : Cx p s m _ meth c cL_sung 5 RL G := ⟨⟨B.exec, B.bytes, hml, findClass_of_methodNamed B.named, fun w hw => atoms_spec (ws := wmH yL_sung cL_sung 5 (some .int) [(0, 10, 13, 18), (0, 10, 17, 13)]) B.pre w (List.mem_cons_of_mem _ hw)⟩, B.notSynchronized, hK⟩
  have hl := lv_entry ([.ref (gR G 0), .int a1, .int a2, .ref (gR G 186)]) (n := 5) (Nat.le_of_ble_eq_true rfl)
  rw [lg_entry_eq]
  generalize (lg_sl ([.ref (gR G 0), .int a1, .int a2, .ref (gR G 186)]) ++ List.replicate (5 - (lg_sl ([.ref (gR G 0), .int a1, .int a2, .ref (gR G 186)])).length) Slot.unset).toArray = ls at hl ⊢
  exact sL_sung C B.returns ht hst ⟨hP, va_S.rf⟩ hl h
theorem dL_teach_0 : decode cL_teach 0 = .ok (.aload_n 3, 1) := by decide +kernel
theorem dL_teach_1 : decode cL_teach 1 = .ok (.iconst 0, 1) := by decide +kernel
theorem dL_teach_2 : decode cL_teach 2 = .ok (.aload_n 0, 1) := by decide +kernel
theorem dL_teach_3 : decode cL_teach 3 = .ok (.iload_n 1, 1) := by decide +kernel
theorem dL_teach_4 : decode cL_teach 4 = .ok (.iload_n 2, 1) := by decide +kernel
theorem dL_teach_5 : decode cL_teach 5 = .ok (.invokevirtual 36, 3) := by decide +kernel
theorem dL_teach_8 : decode cL_teach 8 = .ok (.ifCond .eq 7, 3) := by decide +kernel
theorem dL_teach_11 : decode cL_teach 11 = .ok (.lconst 1, 1) := by decide +kernel
theorem dL_teach_12 : decode cL_teach 12 = .ok (.goto 4, 3) := by decide +kernel
theorem dL_teach_15 : decode cL_teach 15 = .ok (.lconst 0, 1) := by decide +kernel
theorem dL_teach_16 : decode cL_teach 16 = .ok (.lastore, 1) := by decide +kernel
theorem dL_teach_17 : decode cL_teach 17 = .ok (.goto 7, 3) := by decide +kernel
theorem dL_teach_20 : decode cL_teach 20 = .ok (.astore 4, 2) := by decide +kernel
theorem dL_teach_22 : decode cL_teach 22 = .ok (.iconst 1, 1) := by decide +kernel
theorem dL_teach_23 : decode cL_teach 23 = .ok (.ireturn, 1) := by decide +kernel
theorem dL_teach_24 : decode cL_teach 24 = .ok (.iconst 0, 1) := by decide +kernel
theorem dL_teach_25 : decode cL_teach 25 = .ok (.ireturn, 1) := by decide +kernel
theorem kL_36 : CV RL 36 RX9 yX9_teach cX9_teach 3 (some .boolean) 2 := ⟨wsV_gt wd899 wd900 wd901 wd1 wd902, by decide +kernel⟩
set_option maxHeartbeats 4000000 in
set_option maxRecDepth 20000 in
theorem sL_teach (C : Cx p s m args meth c cL_teach 5 RL G) (hr : meth.sig.returnType = some .int) (ht : c.exceptionTable.toList = tableOf [(0, 17, 20, 18)]) (hst : l.stackTraces = false) {a1 : Int32} {a2 : Int32} {S : St} {res : Int32 × St} {H : Heap} {locs : List Loc} {ls : Array Slot} (hd : Dy G S s H locs) (hl : lv_has ls 5 [(0, .ref (gR G 0)), (1, .int a1), (2, .int a2), (3, .ref (gR G 186))]) (h : fC (some 1) none true (fX9_teach a1 a2 S) = some res) : W p l e (rmL 8 2 12) s m args below meth c H locs 0 0 (MQ below (QI G res.1 res.2) args s 2 12 (Ab G)) (F0 m 0 ls []) := by
  have hx := C.1.1
  have hb := C.1.2.1
  cases hf : fX9_teach a1 a2 S with
  | none => rw [hf] at h; cases h
  | some w0 =>
    obtain ⟨w, S1⟩ := w0
    rw [hf] at h
    refine lv_aload_n hx hb dL_teach_0 rfl (lv_at hl 3 rfl) ?_
    refine lv_iconst hx hb dL_teach_1 rfl ?_
    refine lv_aload_n hx hb dL_teach_2 rfl (lv_at hl 0 rfl) ?_
    refine lv_iload_n hx hb dL_teach_3 rfl (lv_at hl 1 rfl) ?_
    refine lv_iload_n hx hb dL_teach_4 rfl (lv_at hl 2 rfl) ?_
    refine R_tVc (rest := [.int 0, .ref (gR G 186)]) (As := [.int a1, .int a2]) C hd (ccX9_teach l G hst hf) kL_36 rfl (by decide) (rfl : kd 0 = 9) hl.1 ⟨by decide, by decide⟩ rfl rfl (Nat.le_of_ble_eq_true rfl) dL_teach_5 ⟨by decide, by decide⟩ ?_ ?_
    · intro en hen ce q9 H1 locs1 hd1 hce hcv hcl9
      subst hen
      by_cases c1 : en = 1
      · subst c1
        refine vx_catch (own := RL) (name := nNS) C.1.2.2.2.1 [] ⟨0, 17, 20, 18⟩ [] ht (fun z hz => nomatch hz) (by decide) (by decide) (C.1.2.2.2.2 _ wd809) (C.cst 1) hce hcv hcl9 ?_
        refine lv_astore hx hb dL_teach_20 hl (by decide) rfl (fun ls hl => ?_)
        refine lv_iconst hx hb dL_teach_22 rfl ?_
        exact R_iret C hr hd1 h dL_teach_23
      · exfalso
        exact fC_1 c1 h
    · intro v hv H1 locs1 hd1
      subst hv
      refine lv_if_eq (tgt := 15) hx hb dL_teach_8 (by decide) (fun cz => ?_) (fun cz => ?_)
      · have h : some (0, up S1 186 0 0) = some res := by rw [← h]; show _ = some (0, up S1 186 0 (if v = 0 then 0 else 1)); rw [if_pos cz]
        refine lv_lconst hx hb dL_teach_15 rfl ?_
        refine R_last (v := 0) C hd1 dL_teach_16 (fun H2 locs2 hd2 => ?_)
        refine lv_goto (tgt := 24) hx hb dL_teach_17 (by decide) ?_
        refine lv_iconst hx hb dL_teach_24 rfl ?_
        exact R_iret C hr hd2 h dL_teach_25
      · have h : some (0, up S1 186 0 1) = some res := by rw [← h]; show _ = some (0, up S1 186 0 (if v = 0 then 0 else 1)); rw [if_neg cz]
        refine lv_lconst hx hb dL_teach_11 rfl ?_
        refine lv_goto (tgt := 16) hx hb dL_teach_12 (by decide) ?_
        refine R_last (v := 1) C hd1 dL_teach_16 (fun H2 locs2 hd2 => ?_)
        refine lv_goto (tgt := 24) hx hb dL_teach_17 (by decide) ?_
        refine lv_iconst hx hb dL_teach_24 rfl ?_
        exact R_iret C hr hd2 h dL_teach_25
set_option maxRecDepth 20000 in
theorem ccL_teach (l : Launch) (G : Gt) (hst : l.stackTraces = false) {a1 : Int32} {a2 : Int32} {S : St} {res : Int32 × St} (h : fC (some 1) none true (fX9_teach a1 a2 S) = some res) : Met l yL_teach (wmH yL_teach cL_teach 5 (some .int) [(0, 17, 20, 18)]) (rmL 8 2 12) (PcW G S [.ref (gR G 0), .int a1, .int a2, .ref (gR G 186)]) (QI G res.1 res.2) 2 12 (Ab G) := by
  refine Mt_ofWH (cc := cL_teach) (maxL := 5) (ret := (some .int)) (hh := [(0, 17, 20, 18)]) (by decide) rfl ?_
  intro p e s m args below meth c s₁ B hml ht hv
  obtain ⟨rfl, hK, hP⟩ := hv
  have C : Cx p s m _ meth c cL_teach 5 RL G := ⟨⟨B.exec, B.bytes, hml, findClass_of_methodNamed B.named, fun w hw => atoms_spec (ws := wmH yL_teach cL_teach 5 (some .int) [(0, 17, 20, 18)]) B.pre w (List.mem_cons_of_mem _ hw)⟩, B.notSynchronized, hK⟩
  have hl := lv_entry ([.ref (gR G 0), .int a1, .int a2, .ref (gR G 186)]) (n := 5) (Nat.le_of_ble_eq_true rfl)
  rw [lg_entry_eq]
  generalize (lg_sl ([.ref (gR G 0), .int a1, .int a2, .ref (gR G 186)]) ++ List.replicate (5 - (lg_sl ([.ref (gR G 0), .int a1, .int a2, .ref (gR G 186)])).length) Slot.unset).toArray = ls at hl ⊢
  exact sL_teach C B.returns ht hst ⟨hP, va_S.rf⟩ hl h
end HLP
