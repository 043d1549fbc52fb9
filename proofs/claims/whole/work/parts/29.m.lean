section T29
variable {p : Program} {l : Launch} {e : Env} {s : State} {m : MethodId} {args : Array Value} {below : List Frame} {meth : Method} {c : Code} {G : Gt}
def fX10_byteAt (a1 : Int32) (S : St) : Option (Int32 × St) :=
  (if (S 142 19) ≤ a1 then ri ((-1)) S else rd S 157 a1 fun x3 => ri x3 S)
set_option maxHeartbeats 4000000 in
set_option maxRecDepth 20000 in
theorem sfX10_byteAt (C : Cx p s m args meth c cX10_byteAt 2 RX10 G) (hr : meth.sig.returnType = some .int) {a1 : Int32} {S : St} {res : (Int32 × St)} {H : Heap} {locs : List Loc} {ls : Array Slot}  (hd : Dy G S s H locs) (hl : lv_has ls 2 [(0, .ref (gR G 142)), (1, .int a1)]) (h : fX10_byteAt a1 S = some res) : W p l e (rmL 3 0 0) s m args below meth c H locs 0 0 (MQ below (QI G res.1 res.2) args s 0 0 (Ab G)) (F0 m 0 ls []) := by
  unfold fX10_byteAt at h
  have hx := C.1.1
  have hb := C.1.2.1
  refine lv_iload_n hx hb dX10_byteAt_0 rfl (lv_at hl 1 rfl) ?_
  refine lv_aload_n hx hb dX10_byteAt_1 rfl (lv_at hl 0 rfl) ?_
  refine gX10_177 C hd (rfl : kd 142 = 10) dX10_byteAt_2 ?_
  refine lv_icmp_ge (tgt := 17) hx hb dX10_byteAt_5 (by decide) (fun c1 => ?_) (fun c1 => ?_)
  · rw [if_pos c1] at h
    refine lv_iconst (v := -1) hx hb dX10_byteAt_17 (by decide) ?_
    exact R_iret C hr hd h dX10_byteAt_18
  · rw [if_neg c1] at h
    refine lv_aload_n hx hb dX10_byteAt_8 rfl (lv_at hl 0 rfl) ?_
    refine gX10_74 C hd (rfl : kd 142 = 10) (q := 157) rfl dX10_byteAt_9 (fun y2 => ?_)
    refine lv_iload_n hx hb dX10_byteAt_12 rfl (lv_at hl 1 rfl) ?_
    refine R_iald C hd y2 h dX10_byteAt_13 (fun x3 h => ?_)
    refine lv_goto (tgt := 18) hx hb dX10_byteAt_14 (by decide) ?_
    exact R_iret C hr hd h dX10_byteAt_18
set_option maxRecDepth 20000 in
theorem ccX10_byteAt (l : Launch) (G : Gt) {a1 : Int32} {S : St} {res : (Int32 × St)}  (h : fX10_byteAt a1 S = some res) : Met l yX10_byteAt (wm yX10_byteAt cX10_byteAt 2 (some .int)) (rmL 3 0 0) (PcW G S [.ref (gR G 142), .int a1]) (QI G res.1 res.2) 0 0 (Ab G) := by
  refine Met.ofW (cc := cX10_byteAt) (maxL := 2) (ret := (some .int)) (by decide) rfl ?_
  intro p e s m args below meth c s₁ B hml hv
  obtain ⟨rfl, hK, hP⟩ := hv
  have C : Cx p s m _ meth c cX10_byteAt 2 RX10 G := ⟨⟨B.exec, B.bytes, hml, findClass_of_methodNamed B.named, fun w hw => atoms_spec (ws := wm yX10_byteAt cX10_byteAt 2 (some .int)) B.pre w (List.mem_cons_of_mem _ hw)⟩, B.notSynchronized, hK⟩
  have hl := lv_entry ([.ref (gR G 142), .int a1]) (n := 2) (Nat.le_of_ble_eq_true rfl)
  rw [lg_entry_eq]
  generalize (lg_sl ([.ref (gR G 142), .int a1]) ++ List.replicate (2 - (lg_sl ([.ref (gR G 142), .int a1])).length) Slot.unset).toArray = ls at hl ⊢
  exact sfX10_byteAt C B.returns  ⟨hP, va_S.rf⟩ hl h
def fX10_isLetter (a0 : Int32) (S : St) : Option (Int32 × St) :=
  (if a0 < 97 then rz 0 S else (if 122 < a0 then rz 0 S else rz 1 S))
set_option maxHeartbeats 4000000 in
set_option maxRecDepth 20000 in
theorem sfX10_isLetter (C : Cx p s m args meth c cX10_isLetter 1 RX10 G) (hr : meth.sig.returnType = some .boolean) {a0 : Int32} {S : St} {res : (Int32 × St)} {H : Heap} {locs : List Loc} {ls : Array Slot}  (hd : Dy G S s H locs) (hl : lv_has ls 1 [(0, .int a0)]) (h : fX10_isLetter a0 S = some res) : W p l e (rmL 3 0 0) s m args below meth c H locs 0 0 (MQ below (QI G res.1 res.2) args s 0 0 (Ab G)) (F0 m 0 ls []) := by
  unfold fX10_isLetter at h
  have hx := C.1.1
  have hb := C.1.2.1
  refine lv_iload_n hx hb dX10_isLetter_0 rfl (lv_at hl 0 rfl) ?_
  refine lv_bipush (v := 97) hx hb dX10_isLetter_1 (by decide) ?_
  refine lv_icmp_lt (tgt := 16) hx hb dX10_isLetter_3 (by decide) (fun c1 => ?_) (fun c1 => ?_)
  · rw [if_pos c1] at h
    refine lv_iconst (v := 0) hx hb dX10_isLetter_16 (by decide) ?_
    exact R_zret C hr hd h dX10_isLetter_17
  · rw [if_neg c1] at h
    refine lv_iload_n hx hb dX10_isLetter_6 rfl (lv_at hl 0 rfl) ?_
    refine lv_bipush (v := 122) hx hb dX10_isLetter_7 (by decide) ?_
    refine lv_icmp_gt (tgt := 16) hx hb dX10_isLetter_9 (by decide) (fun c2 => ?_) (fun c2 => ?_)
    · rw [if_pos c2] at h
      refine lv_iconst (v := 0) hx hb dX10_isLetter_16 (by decide) ?_
      exact R_zret C hr hd h dX10_isLetter_17
    · rw [if_neg c2] at h
      refine lv_iconst (v := 1) hx hb dX10_isLetter_12 (by decide) ?_
      refine lv_goto (tgt := 17) hx hb dX10_isLetter_13 (by decide) ?_
      exact R_zret C hr hd h dX10_isLetter_17
set_option maxRecDepth 20000 in
theorem ccX10_isLetter (l : Launch) (G : Gt) {a0 : Int32} {S : St} {res : (Int32 × St)}  (h : fX10_isLetter a0 S = some res) : Met l yX10_isLetter (wm yX10_isLetter cX10_isLetter 1 (some .boolean)) (rmL 3 0 0) (PcW G S [.int a0]) (QI G res.1 res.2) 0 0 (Ab G) := by
  refine Met.ofW (cc := cX10_isLetter) (maxL := 1) (ret := (some .boolean)) (by decide) rfl ?_
  intro p e s m args below meth c s₁ B hml hv
  obtain ⟨rfl, hK, hP⟩ := hv
  have C : Cx p s m _ meth c cX10_isLetter 1 RX10 G := ⟨⟨B.exec, B.bytes, hml, findClass_of_methodNamed B.named, fun w hw => atoms_spec (ws := wm yX10_isLetter cX10_isLetter 1 (some .boolean)) B.pre w (List.mem_cons_of_mem _ hw)⟩, B.notSynchronized, hK⟩
  have hl := lv_entry ([.int a0]) (n := 1) (Nat.le_of_ble_eq_true rfl)
  rw [lg_entry_eq]
  generalize (lg_sl ([.int a0]) ++ List.replicate (1 - (lg_sl ([.int a0])).length) Slot.unset).toArray = ls at hl ⊢
  exact sfX10_isLetter C B.returns  ⟨hP, va_S.rf⟩ hl h
def fX10_isDigit (a0 : Int32) (S : St) : Option (Int32 × St) :=
  (if a0 < 48 then rz 0 S else (if 57 < a0 then rz 0 S else rz 1 S))
set_option maxHeartbeats 4000000 in
set_option maxRecDepth 20000 in
theorem sfX10_isDigit (C : Cx p s m args meth c cX10_isDigit 1 RX10 G) (hr : meth.sig.returnType = some .boolean) {a0 : Int32} {S : St} {res : (Int32 × St)} {H : Heap} {locs : List Loc} {ls : Array Slot}  (hd : Dy G S s H locs) (hl : lv_has ls 1 [(0, .int a0)]) (h : fX10_isDigit a0 S = some res) : W p l e (rmL 3 0 0) s m args below meth c H locs 0 0 (MQ below (QI G res.1 res.2) args s 0 0 (Ab G)) (F0 m 0 ls []) := by
  unfold fX10_isDigit at h
  have hx := C.1.1
  have hb := C.1.2.1
  refine lv_iload_n hx hb dX10_isDigit_0 rfl (lv_at hl 0 rfl) ?_
  refine lv_bipush (v := 48) hx hb dX10_isDigit_1 (by decide) ?_
  refine lv_icmp_lt (tgt := 16) hx hb dX10_isDigit_3 (by decide) (fun c1 => ?_) (fun c1 => ?_)
  · rw [if_pos c1] at h
    refine lv_iconst (v := 0) hx hb dX10_isDigit_16 (by decide) ?_
    exact R_zret C hr hd h dX10_isDigit_17
  · rw [if_neg c1] at h
    refine lv_iload_n hx hb dX10_isDigit_6 rfl (lv_at hl 0 rfl) ?_
    refine lv_bipush (v := 57) hx hb dX10_isDigit_7 (by decide) ?_
    refine lv_icmp_gt (tgt := 16) hx hb dX10_isDigit_9 (by decide) (fun c2 => ?_) (fun c2 => ?_)
    · rw [if_pos c2] at h
      refine lv_iconst (v := 0) hx hb dX10_isDigit_16 (by decide) ?_
      exact R_zret C hr hd h dX10_isDigit_17
    · rw [if_neg c2] at h
      refine lv_iconst (v := 1) hx hb dX10_isDigit_12 (by decide) ?_
      refine lv_goto (tgt := 17) hx hb dX10_isDigit_13 (by decide) ?_
      exact R_zret C hr hd h dX10_isDigit_17
set_option maxRecDepth 20000 in
theorem ccX10_isDigit (l : Launch) (G : Gt) {a0 : Int32} {S : St} {res : (Int32 × St)}  (h : fX10_isDigit a0 S = some res) : Met l yX10_isDigit (wm yX10_isDigit cX10_isDigit 1 (some .boolean)) (rmL 3 0 0) (PcW G S [.int a0]) (QI G res.1 res.2) 0 0 (Ab G) := by
  refine Met.ofW (cc := cX10_isDigit) (maxL := 1) (ret := (some .boolean)) (by decide) rfl ?_
  intro p e s m args below meth c s₁ B hml hv
  obtain ⟨rfl, hK, hP⟩ := hv
  have C : Cx p s m _ meth c cX10_isDigit 1 RX10 G := ⟨⟨B.exec, B.bytes, hml, findClass_of_methodNamed B.named, fun w hw => atoms_spec (ws := wm yX10_isDigit cX10_isDigit 1 (some .boolean)) B.pre w (List.mem_cons_of_mem _ hw)⟩, B.notSynchronized, hK⟩
  have hl := lv_entry ([.int a0]) (n := 1) (Nat.le_of_ble_eq_true rfl)
  rw [lg_entry_eq]
  generalize (lg_sl ([.int a0]) ++ List.replicate (1 - (lg_sl ([.int a0])).length) Slot.unset).toArray = ls at hl ⊢
  exact sfX10_isDigit C B.returns  ⟨hP, va_S.rf⟩ hl h
def fX10_isMark (a0 : Int32) (S : St) : Option (Int32 × St) :=
  (if a0 = 59 then rz 1 S else (if a0 = 40 then rz 1 S else (if a0 = 41 then rz 1 S else (if a0 = 43 then rz 1 S else (if a0 = 45 then rz 1 S else (if a0 = 42 then rz 1 S else (if a0 = 47 then rz 1 S else (if a0 = 60 then rz 1 S else (if a0 = 61 then rz 1 S else rz 0 S)))))))))
set_option maxHeartbeats 4000000 in
set_option maxRecDepth 20000 in
theorem sfX10_isMark (C : Cx p s m args meth c cX10_isMark 1 RX10 G) (hr : meth.sig.returnType = some .boolean) {a0 : Int32} {S : St} {res : (Int32 × St)} {H : Heap} {locs : List Loc} {ls : Array Slot}  (hd : Dy G S s H locs) (hl : lv_has ls 1 [(0, .int a0)]) (h : fX10_isMark a0 S = some res) : W p l e (rmL 3 0 0) s m args below meth c H locs 0 0 (MQ below (QI G res.1 res.2) args s 0 0 (Ab G)) (F0 m 0 ls []) := by
  unfold fX10_isMark at h
  have hx := C.1.1
  have hb := C.1.2.1
  refine lv_iload_n hx hb dX10_isMark_0 rfl (lv_at hl 0 rfl) ?_
  refine lv_bipush (v := 59) hx hb dX10_isMark_1 (by decide) ?_
  refine lv_icmp_eq (tgt := 54) hx hb dX10_isMark_3 (by decide) (fun c1 => ?_) (fun c1 => ?_)
  · rw [if_pos c1] at h
    refine lv_iconst (v := 1) hx hb dX10_isMark_54 (by decide) ?_
    refine lv_goto (tgt := 59) hx hb dX10_isMark_55 (by decide) ?_
    exact R_zret C hr hd h dX10_isMark_59
  · rw [if_neg c1] at h
    refine lv_iload_n hx hb dX10_isMark_6 rfl (lv_at hl 0 rfl) ?_
    refine lv_bipush (v := 40) hx hb dX10_isMark_7 (by decide) ?_
    refine lv_icmp_eq (tgt := 54) hx hb dX10_isMark_9 (by decide) (fun c2 => ?_) (fun c2 => ?_)
    · rw [if_pos c2] at h
      refine lv_iconst (v := 1) hx hb dX10_isMark_54 (by decide) ?_
      refine lv_goto (tgt := 59) hx hb dX10_isMark_55 (by decide) ?_
      exact R_zret C hr hd h dX10_isMark_59
    · rw [if_neg c2] at h
      refine lv_iload_n hx hb dX10_isMark_12 rfl (lv_at hl 0 rfl) ?_
      refine lv_bipush (v := 41) hx hb dX10_isMark_13 (by decide) ?_
      refine lv_icmp_eq (tgt := 54) hx hb dX10_isMark_15 (by decide) (fun c3 => ?_) (fun c3 => ?_)
      · rw [if_pos c3] at h
        refine lv_iconst (v := 1) hx hb dX10_isMark_54 (by decide) ?_
        refine lv_goto (tgt := 59) hx hb dX10_isMark_55 (by decide) ?_
        exact R_zret C hr hd h dX10_isMark_59
      · rw [if_neg c3] at h
        refine lv_iload_n hx hb dX10_isMark_18 rfl (lv_at hl 0 rfl) ?_
        refine lv_bipush (v := 43) hx hb dX10_isMark_19 (by decide) ?_
        refine lv_icmp_eq (tgt := 54) hx hb dX10_isMark_21 (by decide) (fun c4 => ?_) (fun c4 => ?_)
        · rw [if_pos c4] at h
          refine lv_iconst (v := 1) hx hb dX10_isMark_54 (by decide) ?_
          refine lv_goto (tgt := 59) hx hb dX10_isMark_55 (by decide) ?_
          exact R_zret C hr hd h dX10_isMark_59
        · rw [if_neg c4] at h
          refine lv_iload_n hx hb dX10_isMark_24 rfl (lv_at hl 0 rfl) ?_
          refine lv_bipush (v := 45) hx hb dX10_isMark_25 (by decide) ?_
          refine lv_icmp_eq (tgt := 54) hx hb dX10_isMark_27 (by decide) (fun c5 => ?_) (fun c5 => ?_)
          · rw [if_pos c5] at h
            refine lv_iconst (v := 1) hx hb dX10_isMark_54 (by decide) ?_
            refine lv_goto (tgt := 59) hx hb dX10_isMark_55 (by decide) ?_
            exact R_zret C hr hd h dX10_isMark_59
          · rw [if_neg c5] at h
            refine lv_iload_n hx hb dX10_isMark_30 rfl (lv_at hl 0 rfl) ?_
            refine lv_bipush (v := 42) hx hb dX10_isMark_31 (by decide) ?_
            refine lv_icmp_eq (tgt := 54) hx hb dX10_isMark_33 (by decide) (fun c6 => ?_) (fun c6 => ?_)
            · rw [if_pos c6] at h
              refine lv_iconst (v := 1) hx hb dX10_isMark_54 (by decide) ?_
              refine lv_goto (tgt := 59) hx hb dX10_isMark_55 (by decide) ?_
              exact R_zret C hr hd h dX10_isMark_59
            · rw [if_neg c6] at h
              refine lv_iload_n hx hb dX10_isMark_36 rfl (lv_at hl 0 rfl) ?_
              refine lv_bipush (v := 47) hx hb dX10_isMark_37 (by decide) ?_
              refine lv_icmp_eq (tgt := 54) hx hb dX10_isMark_39 (by decide) (fun c7 => ?_) (fun c7 => ?_)
              · rw [if_pos c7] at h
                refine lv_iconst (v := 1) hx hb dX10_isMark_54 (by decide) ?_
                refine lv_goto (tgt := 59) hx hb dX10_isMark_55 (by decide) ?_
                exact R_zret C hr hd h dX10_isMark_59
              · rw [if_neg c7] at h
                refine lv_iload_n hx hb dX10_isMark_42 rfl (lv_at hl 0 rfl) ?_
                refine lv_bipush (v := 60) hx hb dX10_isMark_43 (by decide) ?_
                refine lv_icmp_eq (tgt := 54) hx hb dX10_isMark_45 (by decide) (fun c8 => ?_) (fun c8 => ?_)
                · rw [if_pos c8] at h
                  refine lv_iconst (v := 1) hx hb dX10_isMark_54 (by decide) ?_
                  refine lv_goto (tgt := 59) hx hb dX10_isMark_55 (by decide) ?_
                  exact R_zret C hr hd h dX10_isMark_59
                · rw [if_neg c8] at h
                  refine lv_iload_n hx hb dX10_isMark_48 rfl (lv_at hl 0 rfl) ?_
                  refine lv_bipush (v := 61) hx hb dX10_isMark_49 (by decide) ?_
                  refine lv_icmp_ne (tgt := 58) hx hb dX10_isMark_51 (by decide) (fun c9 => ?_) (fun c9 => ?_)
                  · rw [if_neg c9] at h
                    refine lv_iconst (v := 0) hx hb dX10_isMark_58 (by decide) ?_
                    exact R_zret C hr hd h dX10_isMark_59
                  · rw [if_pos c9] at h
                    refine lv_iconst (v := 1) hx hb dX10_isMark_54 (by decide) ?_
                    refine lv_goto (tgt := 59) hx hb dX10_isMark_55 (by decide) ?_
                    exact R_zret C hr hd h dX10_isMark_59
set_option maxRecDepth 20000 in
theorem ccX10_isMark (l : Launch) (G : Gt) {a0 : Int32} {S : St} {res : (Int32 × St)}  (h : fX10_isMark a0 S = some res) : Met l yX10_isMark (wm yX10_isMark cX10_isMark 1 (some .boolean)) (rmL 3 0 0) (PcW G S [.int a0]) (QI G res.1 res.2) 0 0 (Ab G) := by
  refine Met.ofW (cc := cX10_isMark) (maxL := 1) (ret := (some .boolean)) (by decide) rfl ?_
  intro p e s m args below meth c s₁ B hml hv
  obtain ⟨rfl, hK, hP⟩ := hv
  have C : Cx p s m _ meth c cX10_isMark 1 RX10 G := ⟨⟨B.exec, B.bytes, hml, findClass_of_methodNamed B.named, fun w hw => atoms_spec (ws := wm yX10_isMark cX10_isMark 1 (some .boolean)) B.pre w (List.mem_cons_of_mem _ hw)⟩, B.notSynchronized, hK⟩
  have hl := lv_entry ([.int a0]) (n := 1) (Nat.le_of_ble_eq_true rfl)
  rw [lg_entry_eq]
  generalize (lg_sl ([.int a0]) ++ List.replicate (1 - (lg_sl ([.int a0])).length) Slot.unset).toArray = ls at hl ⊢
  exact sfX10_isMark C B.returns  ⟨hP, va_S.rf⟩ hl h
def BX10_stepOn_26 (r0 : St → Option St)  (S : St) : Option St :=
  pf S 142 18 ((S 142 18) + 1) fun S => (r0  S)
set_option maxHeartbeats 4000000 in
set_option maxRecDepth 20000 in
theorem sBX10_stepOn_26 (C : Cx p s m args meth c cX10_stepOn 2 RX10 G) (hr : meth.sig.returnType = none) {r0 : St → Option St} (hr0 : ∀  (S : St) (res : St) (H : Heap) (locs : List Loc) (ls : Array Slot), Dy G S s H locs → lv_has ls 2 [(0, .ref (gR G 142))] → r0  S = some res → W p l e (rmL 4 0 0) s m args below meth c H locs 0 0 (MQ below (QV G res) args s 0 0 (Ab G)) (F0 m 0 ls []))  {S : St} {res : St} {H : Heap} {locs : List Loc} {ls : Array Slot}  (hd : Dy G S s H locs) (hl : lv_has ls 2 [(0, .ref (gR G 142))]) (h : BX10_stepOn_26 r0  S = some res) : W p l e (rmL 4 0 0) s m args below meth c H locs 0 0 (MQ below (QV G res) args s 0 0 (Ab G)) (F0 m 26 ls []) := by
  unfold BX10_stepOn_26 at h
  have hx := C.1.1
  have hb := C.1.2.1
  refine lv_aload_n hx hb dX10_stepOn_26 rfl (lv_at hl 0 rfl) ?_
  refine lv_dup hx hb dX10_stepOn_27 rfl ?_
  refine gX10_180 C hd (rfl : kd 142 = 10) dX10_stepOn_28 ?_
  refine lv_iconst (v := 1) hx hb dX10_stepOn_31 (by decide) ?_
  refine lv_iadd hx hb dX10_stepOn_32 ?_
  refine pX10_180 C hd (rfl : kd 142 = 10) h dX10_stepOn_33 (fun S H locs hd h => ?_)
  refine lv_goto (tgt := 0) hx hb dX10_stepOn_36 (by decide) ?_
  exact hr0  _ _ _ _ _  hd (lv_sub hl [0] rfl) h
def BX10_stepOn_212  (S : St) : Option St :=
  pf S 142 23 (S 142 18) fun S => some S
set_option maxHeartbeats 4000000 in
set_option maxRecDepth 20000 in
theorem sBX10_stepOn_212 (C : Cx p s m args meth c cX10_stepOn 2 RX10 G) (hr : meth.sig.returnType = none)  {S : St} {res : St} {H : Heap} {locs : List Loc} {ls : Array Slot}  (hd : Dy G S s H locs) (hl : lv_has ls 2 [(0, .ref (gR G 142))]) (h : BX10_stepOn_212  S = some res) : W p l e (rmL 4 0 0) s m args below meth c H locs 0 0 (MQ below (QV G res) args s 0 0 (Ab G)) (F0 m 212 ls []) := by
  unfold BX10_stepOn_212 at h
  have hx := C.1.1
  have hb := C.1.2.1
  refine lv_aload_n hx hb dX10_stepOn_212 rfl (lv_at hl 0 rfl) ?_
  refine lv_aload_n hx hb dX10_stepOn_213 rfl (lv_at hl 0 rfl) ?_
  refine gX10_180 C hd (rfl : kd 142 = 10) dX10_stepOn_214 ?_
  refine pX10_213 C hd (rfl : kd 142 = 10) h dX10_stepOn_217 (fun S H locs hd h => ?_)
  exact R_vret C hr hd h dX10_stepOn_220
def BX10_stepOn_209 (s1 : Int32) (S : St) : Option St :=
  pf S 142 20 s1 fun S => (BX10_stepOn_212  S)
set_option maxHeartbeats 4000000 in
set_option maxRecDepth 20000 in
theorem sBX10_stepOn_209 (C : Cx p s m args meth c cX10_stepOn 2 RX10 G) (hr : meth.sig.returnType = none) {s1 : Int32} {S : St} {res : St} {H : Heap} {locs : List Loc} {ls : Array Slot}  (hd : Dy G S s H locs) (hl : lv_has ls 2 [(0, .ref (gR G 142))]) (h : BX10_stepOn_209 s1 S = some res) : W p l e (rmL 4 0 0) s m args below meth c H locs 0 0 (MQ below (QV G res) args s 0 0 (Ab G)) (F0 m 209 ls [.int s1, .ref (gR G 142)]) := by
  unfold BX10_stepOn_209 at h
  have hx := C.1.1
  have hb := C.1.2.1
  refine pX10_190 C hd (rfl : kd 142 = 10) h dX10_stepOn_209 (fun S H locs hd h => ?_)
  exact sBX10_stepOn_212 C hr  hd (lv_sub hl [0] rfl) h
def KX10_stepOn_123 (r123 : St → Option St)  (S : St) : Option St :=
  bd (fX10_byteAt (S 142 18) S) fun x1 S => bd (fX10_isDigit x1 S) fun x2 S => (if x2 = 0 then pf S 142 20 2 fun S => (BX10_stepOn_212  S) else vl (S 142 21) fun x4 => bd (fX10_byteAt (S 142 18) S) fun x5 S => vl (if (((10 * x4) + x5) - 48) < 100000 then ((10 * x4) + x5) - 48 else 100000) fun x6 => pf S 142 21 x6 fun S => pf S 142 18 ((S 142 18) + 1) fun S => (r123  S))
set_option maxHeartbeats 4000000 in
set_option maxRecDepth 20000 in
theorem sKX10_stepOn_123 (C : Cx p s m args meth c cX10_stepOn 2 RX10 G) (hr : meth.sig.returnType = none) {r123 : St → Option St} (hr123 : ∀  (S : St) (res : St) (H : Heap) (locs : List Loc) (ls : Array Slot), Dy G S s H locs → lv_has ls 2 [(0, .ref (gR G 142))] → r123  S = some res → W p l e (rmL 4 0 0) s m args below meth c H locs 0 0 (MQ below (QV G res) args s 0 0 (Ab G)) (F0 m 123 ls []))  {S : St} {res : St} {H : Heap} {locs : List Loc} {ls : Array Slot}  (hd : Dy G S s H locs) (hl : lv_has ls 2 [(0, .ref (gR G 142))]) (h : KX10_stepOn_123 r123  S = some res) : W p l e (rmL 4 0 0) s m args below meth c H locs 0 0 (MQ below (QV G res) args s 0 0 (Ab G)) (F0 m 123 ls []) := by
  unfold KX10_stepOn_123 at h
  have hx := C.1.1
  have hb := C.1.2.1
  refine lv_aload_n hx hb dX10_stepOn_123 rfl (lv_at hl 0 rfl) ?_
  refine lv_aload_n hx hb dX10_stepOn_124 rfl (lv_at hl 0 rfl) ?_
  refine gX10_180 C hd (rfl : kd 142 = 10) dX10_stepOn_125 ?_
  obtain ⟨x1, S1, hc, h⟩ := bd_some h
  refine R_cVi C hd (ccX10_byteAt l G  hc) kX10_183 rfl (by decide) (rfl : kd 142 = 10) hl.1 ⟨by decide, by decide⟩ rfl rfl (Nat.le_of_ble_eq_true rfl) dX10_stepOn_128 ⟨Nat.zero_le _, Nat.zero_le _⟩ (fun H locs hd => ?_)
  generalize S1 = S at h hd
  obtain ⟨x2, S1, hc, h⟩ := bd_some h
  refine R_cSi C hd (ccX10_isDigit l G  hc) kX10_197  hl.1 ⟨by decide, by decide⟩ rfl rfl (Nat.le_of_ble_eq_true rfl) dX10_stepOn_131 ⟨Nat.zero_le _, Nat.zero_le _⟩ (fun H locs hd => ?_)
  generalize S1 = S at h hd
  refine lv_if_eq (tgt := 178) hx hb dX10_stepOn_134 (by decide) (fun c3 => ?_) (fun c3 => ?_)
  · rw [if_pos c3] at h
    refine lv_aload_n hx hb dX10_stepOn_178 rfl (lv_at hl 0 rfl) ?_
    refine lv_iconst (v := 2) hx hb dX10_stepOn_179 (by decide) ?_
    refine pX10_190 C hd (rfl : kd 142 = 10) h dX10_stepOn_180 (fun S H locs hd h => ?_)
    refine lv_goto (tgt := 212) hx hb dX10_stepOn_183 (by decide) ?_
    exact sBX10_stepOn_212 C hr  hd (lv_sub hl [0] rfl) h
  · rw [if_neg c3] at h
    refine lv_aload_n hx hb dX10_stepOn_137 rfl (lv_at hl 0 rfl) ?_
    refine lv_ldc hx hb C.1.2.2.2.1 (C.1.2.2.2.2 _ kcX10_203) dX10_stepOn_138 ?_
    refine lv_bipush (v := 10) hx hb dX10_stepOn_140 (by decide) ?_
    refine lv_aload_n hx hb dX10_stepOn_142 rfl (lv_at hl 0 rfl) ?_
    refine gX10_200 C hd (rfl : kd 142 = 10) dX10_stepOn_143 ?_
    refine R_vl h (fun x4 h => ?_)
    refine lv_imul hx hb dX10_stepOn_146 ?_
    refine lv_aload_n hx hb dX10_stepOn_147 rfl (lv_at hl 0 rfl) ?_
    refine lv_aload_n hx hb dX10_stepOn_148 rfl (lv_at hl 0 rfl) ?_
    refine gX10_180 C hd (rfl : kd 142 = 10) dX10_stepOn_149 ?_
    obtain ⟨x5, S1, hc, h⟩ := bd_some h
    refine R_cVi C hd (ccX10_byteAt l G  hc) kX10_183 rfl (by decide) (rfl : kd 142 = 10) hl.1 ⟨by decide, by decide⟩ rfl rfl (Nat.le_of_ble_eq_true rfl) dX10_stepOn_152 ⟨Nat.zero_le _, Nat.zero_le _⟩ (fun H locs hd => ?_)
    generalize S1 = S at h hd
    refine lv_iadd hx hb dX10_stepOn_155 ?_
    refine lv_bipush (v := 48) hx hb dX10_stepOn_156 (by decide) ?_
    refine lv_isub hx hb dX10_stepOn_158 ?_
    refine R_mmin C hl.1 kmX10_204 (Nat.le_of_ble_eq_true rfl) (Nat.le_of_ble_eq_true rfl) (Nat.le_of_ble_eq_true rfl) (Nat.le_of_ble_eq_true rfl) dX10_stepOn_159 ?_
    refine R_vl h (fun x6 h => ?_)
    refine pX10_200 C hd (rfl : kd 142 = 10) h dX10_stepOn_162 (fun S H locs hd h => ?_)
    refine lv_aload_n hx hb dX10_stepOn_165 rfl (lv_at hl 0 rfl) ?_
    refine lv_dup hx hb dX10_stepOn_166 rfl ?_
    refine gX10_180 C hd (rfl : kd 142 = 10) dX10_stepOn_167 ?_
    refine lv_iconst (v := 1) hx hb dX10_stepOn_170 (by decide) ?_
    refine lv_iadd hx hb dX10_stepOn_171 ?_
    refine pX10_180 C hd (rfl : kd 142 = 10) h dX10_stepOn_172 (fun S H locs hd h => ?_)
    refine lv_goto (tgt := 123) hx hb dX10_stepOn_175 (by decide) ?_
    exact hr123  _ _ _ _ _  hd (lv_sub hl [0] rfl) h
def LX10_stepOn_123 : Nat → St → Option St
  | 0 => fun _ => none
  | n + 1 => fun  S => KX10_stepOn_123 (LX10_stepOn_123 n)  S
theorem sLX10_stepOn_123 (C : Cx p s m args meth c cX10_stepOn 2 RX10 G) (hr : meth.sig.returnType = none) : ∀ (n : Nat)  (S : St) (res : St) (H : Heap) (locs : List Loc) (ls : Array Slot), Dy G S s H locs → lv_has ls 2 [(0, .ref (gR G 142))] → LX10_stepOn_123 n  S = some res → W p l e (rmL 4 0 0) s m args below meth c H locs 0 0 (MQ below (QV G res) args s 0 0 (Ab G)) (F0 m 123 ls []) := by
  intro n
  induction n with
  | zero => intro  S res H locs ls  hd hl h; cases h
  | succ n ih =>
    intro  S res H locs ls  hd hl h
    exact sKX10_stepOn_123 C hr ih  hd hl h
def KX10_stepOn_76 (r76 : St → Option St)  (S : St) : Option St :=
  bd (fX10_byteAt (S 142 18) S) fun x1 S => bd (fX10_isLetter x1 S) fun x2 S => (if x2 = 0 then pf S 142 20 1 fun S => (BX10_stepOn_212  S) else pf S 142 18 ((S 142 18) + 1) fun S => (r76  S))
set_option maxHeartbeats 4000000 in
set_option maxRecDepth 20000 in
theorem sKX10_stepOn_76 (C : Cx p s m args meth c cX10_stepOn 2 RX10 G) (hr : meth.sig.returnType = none) {r76 : St → Option St} (hr76 : ∀  (S : St) (res : St) (H : Heap) (locs : List Loc) (ls : Array Slot), Dy G S s H locs → lv_has ls 2 [(0, .ref (gR G 142))] → r76  S = some res → W p l e (rmL 4 0 0) s m args below meth c H locs 0 0 (MQ below (QV G res) args s 0 0 (Ab G)) (F0 m 76 ls []))  {S : St} {res : St} {H : Heap} {locs : List Loc} {ls : Array Slot}  (hd : Dy G S s H locs) (hl : lv_has ls 2 [(0, .ref (gR G 142))]) (h : KX10_stepOn_76 r76  S = some res) : W p l e (rmL 4 0 0) s m args below meth c H locs 0 0 (MQ below (QV G res) args s 0 0 (Ab G)) (F0 m 76 ls []) := by
  unfold KX10_stepOn_76 at h
  have hx := C.1.1
  have hb := C.1.2.1
  refine lv_aload_n hx hb dX10_stepOn_76 rfl (lv_at hl 0 rfl) ?_
  refine lv_aload_n hx hb dX10_stepOn_77 rfl (lv_at hl 0 rfl) ?_
  refine gX10_180 C hd (rfl : kd 142 = 10) dX10_stepOn_78 ?_
  obtain ⟨x1, S1, hc, h⟩ := bd_some h
  refine R_cVi C hd (ccX10_byteAt l G  hc) kX10_183 rfl (by decide) (rfl : kd 142 = 10) hl.1 ⟨by decide, by decide⟩ rfl rfl (Nat.le_of_ble_eq_true rfl) dX10_stepOn_81 ⟨Nat.zero_le _, Nat.zero_le _⟩ (fun H locs hd => ?_)
  generalize S1 = S at h hd
  obtain ⟨x2, S1, hc, h⟩ := bd_some h
  refine R_cSi C hd (ccX10_isLetter l G  hc) kX10_193  hl.1 ⟨by decide, by decide⟩ rfl rfl (Nat.le_of_ble_eq_true rfl) dX10_stepOn_84 ⟨Nat.zero_le _, Nat.zero_le _⟩ (fun H locs hd => ?_)
  generalize S1 = S at h hd
  refine lv_if_eq (tgt := 103) hx hb dX10_stepOn_87 (by decide) (fun c3 => ?_) (fun c3 => ?_)
  · rw [if_pos c3] at h
    refine lv_aload_n hx hb dX10_stepOn_103 rfl (lv_at hl 0 rfl) ?_
    refine lv_iconst (v := 1) hx hb dX10_stepOn_104 (by decide) ?_
    refine pX10_190 C hd (rfl : kd 142 = 10) h dX10_stepOn_105 (fun S H locs hd h => ?_)
    refine lv_goto (tgt := 212) hx hb dX10_stepOn_108 (by decide) ?_
    exact sBX10_stepOn_212 C hr  hd (lv_sub hl [0] rfl) h
  · rw [if_neg c3] at h
    refine lv_aload_n hx hb dX10_stepOn_90 rfl (lv_at hl 0 rfl) ?_
    refine lv_dup hx hb dX10_stepOn_91 rfl ?_
    refine gX10_180 C hd (rfl : kd 142 = 10) dX10_stepOn_92 ?_
    refine lv_iconst (v := 1) hx hb dX10_stepOn_95 (by decide) ?_
    refine lv_iadd hx hb dX10_stepOn_96 ?_
    refine pX10_180 C hd (rfl : kd 142 = 10) h dX10_stepOn_97 (fun S H locs hd h => ?_)
    refine lv_goto (tgt := 76) hx hb dX10_stepOn_100 (by decide) ?_
    exact hr76  _ _ _ _ _  hd (lv_sub hl [0] rfl) h
def LX10_stepOn_76 : Nat → St → Option St
  | 0 => fun _ => none
  | n + 1 => fun  S => KX10_stepOn_76 (LX10_stepOn_76 n)  S
theorem sLX10_stepOn_76 (C : Cx p s m args meth c cX10_stepOn 2 RX10 G) (hr : meth.sig.returnType = none) : ∀ (n : Nat)  (S : St) (res : St) (H : Heap) (locs : List Loc) (ls : Array Slot), Dy G S s H locs → lv_has ls 2 [(0, .ref (gR G 142))] → LX10_stepOn_76 n  S = some res → W p l e (rmL 4 0 0) s m args below meth c H locs 0 0 (MQ below (QV G res) args s 0 0 (Ab G)) (F0 m 76 ls []) := by
  intro n
  induction n with
  | zero => intro  S res H locs ls  hd hl h; cases h
  | succ n ih =>
    intro  S res H locs ls  hd hl h
    exact sKX10_stepOn_76 C hr ih  hd hl h
def KX10_stepOn_0 (r0 : St → Option St)  (S : St) : Option St :=
  bd (fX10_byteAt (S 142 18) S) fun x1 S => (if x1 = 32 then (BX10_stepOn_26 r0  S) else bd (fX10_byteAt (S 142 18) S) fun x3 S => (if x3 = 10 then (BX10_stepOn_26 r0  S) else pf S 142 22 (S 142 18) fun S => bd (fX10_byteAt (S 142 18) S) fun x5 S => (if x5 = (-1) then pf S 142 20 0 fun S => (BX10_stepOn_212  S) else bd (fX10_isLetter x5 S) fun x7 S => (if x7 = 0 then bd (fX10_isDigit x5 S) fun x9 S => (if x9 = 0 then pf S 142 18 ((S 142 18) + 1) fun S => bd (fX10_isMark x5 S) fun x11 S => (if x11 = 0 then (BX10_stepOn_209 4 S) else (BX10_stepOn_209 3 S)) else pf S 142 21 0 fun S => (LX10_stepOn_123 FU  S)) else (LX10_stepOn_76 FU  S)))))
set_option maxHeartbeats 4000000 in
set_option maxRecDepth 20000 in
theorem sKX10_stepOn_0 (C : Cx p s m args meth c cX10_stepOn 2 RX10 G) (hr : meth.sig.returnType = none) {r0 : St → Option St} (hr0 : ∀  (S : St) (res : St) (H : Heap) (locs : List Loc) (ls : Array Slot), Dy G S s H locs → lv_has ls 2 [(0, .ref (gR G 142))] → r0  S = some res → W p l e (rmL 4 0 0) s m args below meth c H locs 0 0 (MQ below (QV G res) args s 0 0 (Ab G)) (F0 m 0 ls []))  {S : St} {res : St} {H : Heap} {locs : List Loc} {ls : Array Slot}  (hd : Dy G S s H locs) (hl : lv_has ls 2 [(0, .ref (gR G 142))]) (h : KX10_stepOn_0 r0  S = some res) : W p l e (rmL 4 0 0) s m args below meth c H locs 0 0 (MQ below (QV G res) args s 0 0 (Ab G)) (F0 m 0 ls []) := by
  unfold KX10_stepOn_0 at h
  have hx := C.1.1
  have hb := C.1.2.1
  refine lv_aload_n hx hb dX10_stepOn_0 rfl (lv_at hl 0 rfl) ?_
  refine lv_aload_n hx hb dX10_stepOn_1 rfl (lv_at hl 0 rfl) ?_
  refine gX10_180 C hd (rfl : kd 142 = 10) dX10_stepOn_2 ?_
  obtain ⟨x1, S1, hc, h⟩ := bd_some h
  refine R_cVi C hd (ccX10_byteAt l G  hc) kX10_183 rfl (by decide) (rfl : kd 142 = 10) hl.1 ⟨by decide, by decide⟩ rfl rfl (Nat.le_of_ble_eq_true rfl) dX10_stepOn_5 ⟨Nat.zero_le _, Nat.zero_le _⟩ (fun H locs hd => ?_)
  generalize S1 = S at h hd
  refine lv_bipush (v := 32) hx hb dX10_stepOn_8 (by decide) ?_
  refine lv_icmp_eq (tgt := 26) hx hb dX10_stepOn_10 (by decide) (fun c2 => ?_) (fun c2 => ?_)
  · rw [if_pos c2] at h
    exact sBX10_stepOn_26 C hr hr0  hd (lv_sub hl [0] rfl) h
  · rw [if_neg c2] at h
    refine lv_aload_n hx hb dX10_stepOn_13 rfl (lv_at hl 0 rfl) ?_
    refine lv_aload_n hx hb dX10_stepOn_14 rfl (lv_at hl 0 rfl) ?_
    refine gX10_180 C hd (rfl : kd 142 = 10) dX10_stepOn_15 ?_
    obtain ⟨x3, S1, hc, h⟩ := bd_some h
    refine R_cVi C hd (ccX10_byteAt l G  hc) kX10_183 rfl (by decide) (rfl : kd 142 = 10) hl.1 ⟨by decide, by decide⟩ rfl rfl (Nat.le_of_ble_eq_true rfl) dX10_stepOn_18 ⟨Nat.zero_le _, Nat.zero_le _⟩ (fun H locs hd => ?_)
    generalize S1 = S at h hd
    refine lv_bipush (v := 10) hx hb dX10_stepOn_21 (by decide) ?_
    refine lv_icmp_ne (tgt := 39) hx hb dX10_stepOn_23 (by decide) (fun c4 => ?_) (fun c4 => ?_)
    · rw [if_neg c4] at h
      refine lv_aload_n hx hb dX10_stepOn_39 rfl (lv_at hl 0 rfl) ?_
      refine lv_aload_n hx hb dX10_stepOn_40 rfl (lv_at hl 0 rfl) ?_
      refine gX10_180 C hd (rfl : kd 142 = 10) dX10_stepOn_41 ?_
      refine pX10_187 C hd (rfl : kd 142 = 10) h dX10_stepOn_44 (fun S H locs hd h => ?_)
      refine lv_aload_n hx hb dX10_stepOn_47 rfl (lv_at hl 0 rfl) ?_
      refine lv_aload_n hx hb dX10_stepOn_48 rfl (lv_at hl 0 rfl) ?_
      refine gX10_180 C hd (rfl : kd 142 = 10) dX10_stepOn_49 ?_
      obtain ⟨x5, S1, hc, h⟩ := bd_some h
      refine R_cVi C hd (ccX10_byteAt l G  hc) kX10_183 rfl (by decide) (rfl : kd 142 = 10) hl.1 ⟨by decide, by decide⟩ rfl rfl (Nat.le_of_ble_eq_true rfl) dX10_stepOn_52 ⟨Nat.zero_le _, Nat.zero_le _⟩ (fun H locs hd => ?_)
      generalize S1 = S at h hd
      refine lv_istore_n (lv' := [(1, .int x5), (0, .ref (gR G 142))]) hx hb dX10_stepOn_55 rfl hl (by decide) rfl (fun ls hl => ?_)
      refine lv_iload_n hx hb dX10_stepOn_56 rfl (lv_at hl 0 rfl) ?_
      refine lv_iconst (v := -1) hx hb dX10_stepOn_57 (by decide) ?_
      refine lv_icmp_ne (tgt := 69) hx hb dX10_stepOn_58 (by decide) (fun c6 => ?_) (fun c6 => ?_)
      · rw [if_neg c6] at h
        refine lv_iload_n hx hb dX10_stepOn_69 rfl (lv_at hl 0 rfl) ?_
        obtain ⟨x7, S1, hc, h⟩ := bd_some h
        refine R_cSi C hd (ccX10_isLetter l G  hc) kX10_193  hl.1 ⟨by decide, by decide⟩ rfl rfl (Nat.le_of_ble_eq_true rfl) dX10_stepOn_70 ⟨Nat.zero_le _, Nat.zero_le _⟩ (fun H locs hd => ?_)
        generalize S1 = S at h hd
        refine lv_if_eq (tgt := 111) hx hb dX10_stepOn_73 (by decide) (fun c8 => ?_) (fun c8 => ?_)
        · rw [if_pos c8] at h
          refine lv_iload_n hx hb dX10_stepOn_111 rfl (lv_at hl 0 rfl) ?_
          obtain ⟨x9, S1, hc, h⟩ := bd_some h
          refine R_cSi C hd (ccX10_isDigit l G  hc) kX10_197  hl.1 ⟨by decide, by decide⟩ rfl rfl (Nat.le_of_ble_eq_true rfl) dX10_stepOn_112 ⟨Nat.zero_le _, Nat.zero_le _⟩ (fun H locs hd => ?_)
          generalize S1 = S at h hd
          refine lv_if_eq (tgt := 186) hx hb dX10_stepOn_115 (by decide) (fun c10 => ?_) (fun c10 => ?_)
          · rw [if_pos c10] at h
            refine lv_aload_n hx hb dX10_stepOn_186 rfl (lv_at hl 1 rfl) ?_
            refine lv_dup hx hb dX10_stepOn_187 rfl ?_
            refine gX10_180 C hd (rfl : kd 142 = 10) dX10_stepOn_188 ?_
            refine lv_iconst (v := 1) hx hb dX10_stepOn_191 (by decide) ?_
            refine lv_iadd hx hb dX10_stepOn_192 ?_
            refine pX10_180 C hd (rfl : kd 142 = 10) h dX10_stepOn_193 (fun S H locs hd h => ?_)
            refine lv_aload_n hx hb dX10_stepOn_196 rfl (lv_at hl 1 rfl) ?_
            refine lv_iload_n hx hb dX10_stepOn_197 rfl (lv_at hl 0 rfl) ?_
            obtain ⟨x11, S1, hc, h⟩ := bd_some h
            refine R_cSi C hd (ccX10_isMark l G  hc) kX10_210  hl.1 ⟨by decide, by decide⟩ rfl rfl (Nat.le_of_ble_eq_true rfl) dX10_stepOn_198 ⟨Nat.zero_le _, Nat.zero_le _⟩ (fun H locs hd => ?_)
            generalize S1 = S at h hd
            refine lv_if_eq (tgt := 208) hx hb dX10_stepOn_201 (by decide) (fun c12 => ?_) (fun c12 => ?_)
            · rw [if_pos c12] at h
              refine lv_iconst (v := 4) hx hb dX10_stepOn_208 (by decide) ?_
              exact sBX10_stepOn_209 C hr  hd (lv_sub hl [1] rfl) h
            · rw [if_neg c12] at h
              refine lv_iconst (v := 3) hx hb dX10_stepOn_204 (by decide) ?_
              refine lv_goto (tgt := 209) hx hb dX10_stepOn_205 (by decide) ?_
              exact sBX10_stepOn_209 C hr  hd (lv_sub hl [1] rfl) h
          · rw [if_neg c10] at h
            refine lv_aload_n hx hb dX10_stepOn_118 rfl (lv_at hl 1 rfl) ?_
            refine lv_iconst (v := 0) hx hb dX10_stepOn_119 (by decide) ?_
            refine pX10_200 C hd (rfl : kd 142 = 10) h dX10_stepOn_120 (fun S H locs hd h => ?_)
            exact sLX10_stepOn_123 C hr _  _ _ _ _ _  hd (lv_sub hl [1] rfl) h
        · rw [if_neg c8] at h
          exact sLX10_stepOn_76 C hr _  _ _ _ _ _  hd (lv_sub hl [1] rfl) h
      · rw [if_pos c6] at h
        refine lv_aload_n hx hb dX10_stepOn_61 rfl (lv_at hl 1 rfl) ?_
        refine lv_iconst (v := 0) hx hb dX10_stepOn_62 (by decide) ?_
        refine pX10_190 C hd (rfl : kd 142 = 10) h dX10_stepOn_63 (fun S H locs hd h => ?_)
        refine lv_goto (tgt := 212) hx hb dX10_stepOn_66 (by decide) ?_
        exact sBX10_stepOn_212 C hr  hd (lv_sub hl [1] rfl) h
    · rw [if_pos c4] at h
      exact sBX10_stepOn_26 C hr hr0  hd (lv_sub hl [0] rfl) h
def LX10_stepOn_0 : Nat → St → Option St
  | 0 => fun _ => none
  | n + 1 => fun  S => KX10_stepOn_0 (LX10_stepOn_0 n)  S
theorem sLX10_stepOn_0 (C : Cx p s m args meth c cX10_stepOn 2 RX10 G) (hr : meth.sig.returnType = none) : ∀ (n : Nat)  (S : St) (res : St) (H : Heap) (locs : List Loc) (ls : Array Slot), Dy G S s H locs → lv_has ls 2 [(0, .ref (gR G 142))] → LX10_stepOn_0 n  S = some res → W p l e (rmL 4 0 0) s m args below meth c H locs 0 0 (MQ below (QV G res) args s 0 0 (Ab G)) (F0 m 0 ls []) := by
  intro n
  induction n with
  | zero => intro  S res H locs ls  hd hl h; cases h
  | succ n ih =>
    intro  S res H locs ls  hd hl h
    exact sKX10_stepOn_0 C hr ih  hd hl h
def fX10_stepOn  (S : St) : Option St :=
  (LX10_stepOn_0 FU  S)
set_option maxHeartbeats 4000000 in
set_option maxRecDepth 20000 in
theorem sfX10_stepOn (C : Cx p s m args meth c cX10_stepOn 2 RX10 G) (hr : meth.sig.returnType = none)  {S : St} {res : St} {H : Heap} {locs : List Loc} {ls : Array Slot}  (hd : Dy G S s H locs) (hl : lv_has ls 2 [(0, .ref (gR G 142))]) (h : fX10_stepOn  S = some res) : W p l e (rmL 4 0 0) s m args below meth c H locs 0 0 (MQ below (QV G res) args s 0 0 (Ab G)) (F0 m 0 ls []) := by
  unfold fX10_stepOn at h
  have hx := C.1.1
  have hb := C.1.2.1
  exact sLX10_stepOn_0 C hr _  _ _ _ _ _  hd (lv_sub hl [0] rfl) h
set_option maxRecDepth 20000 in
theorem ccX10_stepOn (l : Launch) (G : Gt)  {S : St} {res : St}  (h : fX10_stepOn  S = some res) : Met l yX10_stepOn (wm yX10_stepOn cX10_stepOn 2 (none)) (rmL 4 0 0) (PcW G S [.ref (gR G 142)]) (QV G res) 0 0 (Ab G) := by
  refine Met.ofW (cc := cX10_stepOn) (maxL := 2) (ret := none) (by decide) rfl ?_
  intro p e s m args below meth c s₁ B hml hv
  obtain ⟨rfl, hK, hP⟩ := hv
  have C : Cx p s m _ meth c cX10_stepOn 2 RX10 G := ⟨⟨B.exec, B.bytes, hml, findClass_of_methodNamed B.named, fun w hw => atoms_spec (ws := wm yX10_stepOn cX10_stepOn 2 (none)) B.pre w (List.mem_cons_of_mem _ hw)⟩, B.notSynchronized, hK⟩
  have hl := lv_entry ([.ref (gR G 142)]) (n := 2) (Nat.le_of_ble_eq_true rfl)
  rw [lg_entry_eq]
  generalize (lg_sl ([.ref (gR G 142)]) ++ List.replicate (2 - (lg_sl ([.ref (gR G 142)])).length) Slot.unset).toArray = ls at hl ⊢
  exact sfX10_stepOn C B.returns  ⟨hP, va_S.rf⟩ hl h
def fX10_wrong (a1 : Int32) (S : St) : Option St :=
  (if (S 142 24) = 0 then pf S 142 24 a1 fun S => pf S 142 25 (S 142 22) fun S => some S else some S)
set_option maxHeartbeats 4000000 in
set_option maxRecDepth 20000 in
theorem sfX10_wrong (C : Cx p s m args meth c cX10_wrong 2 RX10 G) (hr : meth.sig.returnType = none) {a1 : Int32} {S : St} {res : St} {H : Heap} {locs : List Loc} {ls : Array Slot}  (hd : Dy G S s H locs) (hl : lv_has ls 2 [(0, .ref (gR G 142)), (1, .int a1)]) (h : fX10_wrong a1 S = some res) : W p l e (rmL 3 0 0) s m args below meth c H locs 0 0 (MQ below (QV G res) args s 0 0 (Ab G)) (F0 m 0 ls []) := by
  unfold fX10_wrong at h
  have hx := C.1.1
  have hb := C.1.2.1
  refine lv_aload_n hx hb dX10_wrong_0 rfl (lv_at hl 0 rfl) ?_
  refine gX10_216 C hd (rfl : kd 142 = 10) dX10_wrong_1 ?_
  refine lv_if_eq (tgt := 8) hx hb dX10_wrong_4 (by decide) (fun c1 => ?_) (fun c1 => ?_)
  · rw [if_pos c1] at h
    refine lv_aload_n hx hb dX10_wrong_8 rfl (lv_at hl 0 rfl) ?_
    refine lv_iload_n hx hb dX10_wrong_9 rfl (lv_at hl 1 rfl) ?_
    refine pX10_216 C hd (rfl : kd 142 = 10) h dX10_wrong_10 (fun S H locs hd h => ?_)
    refine lv_aload_n hx hb dX10_wrong_13 rfl (lv_at hl 0 rfl) ?_
    refine lv_aload_n hx hb dX10_wrong_14 rfl (lv_at hl 0 rfl) ?_
    refine gX10_187 C hd (rfl : kd 142 = 10) dX10_wrong_15 ?_
    refine pX10_219 C hd (rfl : kd 142 = 10) h dX10_wrong_18 (fun S H locs hd h => ?_)
    exact R_vret C hr hd h dX10_wrong_21
  · rw [if_neg c1] at h
    exact R_vret C hr hd h dX10_wrong_7
set_option maxRecDepth 20000 in
theorem ccX10_wrong (l : Launch) (G : Gt) {a1 : Int32} {S : St} {res : St}  (h : fX10_wrong a1 S = some res) : Met l yX10_wrong (wm yX10_wrong cX10_wrong 2 (none)) (rmL 3 0 0) (PcW G S [.ref (gR G 142), .int a1]) (QV G res) 0 0 (Ab G) := by
  refine Met.ofW (cc := cX10_wrong) (maxL := 2) (ret := none) (by decide) rfl ?_
  intro p e s m args below meth c s₁ B hml hv
  obtain ⟨rfl, hK, hP⟩ := hv
  have C : Cx p s m _ meth c cX10_wrong 2 RX10 G := ⟨⟨B.exec, B.bytes, hml, findClass_of_methodNamed B.named, fun w hw => atoms_spec (ws := wm yX10_wrong cX10_wrong 2 (none)) B.pre w (List.mem_cons_of_mem _ hw)⟩, B.notSynchronized, hK⟩
  have hl := lv_entry ([.ref (gR G 142), .int a1]) (n := 2) (Nat.le_of_ble_eq_true rfl)
  rw [lg_entry_eq]
  generalize (lg_sl ([.ref (gR G 142), .int a1]) ++ List.replicate (2 - (lg_sl ([.ref (gR G 142), .int a1])).length) Slot.unset).toArray = ls at hl ⊢
  exact sfX10_wrong C B.returns  ⟨hP, va_S.rf⟩ hl h
def BX10_is_75 (r39 : Nat → Int32 → Int32 → St → Option (Int32 × St)) (l1 : Nat) (l3 : Int32) (s0 : Int32) (S : St) : Option (Int32 × St) :=
  vl (l3 + 1) fun x1 => (r39 l1 s0 x1 S)
set_option maxHeartbeats 4000000 in
set_option maxRecDepth 20000 in
theorem sBX10_is_75 (C : Cx p s m args meth c cX10_is 4 RX10 G) (hr : meth.sig.returnType = some .boolean) {r39 : Nat → Int32 → Int32 → St → Option (Int32 × St)} (hr39 : ∀ (l1 : Nat) (l2 : Int32) (l3 : Int32) (S : St) (res : (Int32 × St)) (H : Heap) (locs : List Loc) (ls : Array Slot), Dy G S s H locs → lv_has ls 4 [(0, .ref (gR G 142)), (1, .ref (gK G l1)), (2, .int l2), (3, .int l3)] → r39 l1 l2 l3 S = some res → W p l e (rmL 6 0 0) s m args below meth c H locs 0 0 (MQ below (QI G res.1 res.2) args s 0 0 (Ab G)) (F0 m 39 ls [])) {l1 : Nat} {l3 : Int32} {s0 : Int32} {S : St} {res : (Int32 × St)} {H : Heap} {locs : List Loc} {ls : Array Slot}  (hd : Dy G S s H locs) (hl : lv_has ls 4 [(0, .ref (gR G 142)), (1, .ref (gK G l1)), (3, .int l3)]) (h : BX10_is_75 r39 l1 l3 s0 S = some res) : W p l e (rmL 6 0 0) s m args below meth c H locs 0 0 (MQ below (QI G res.1 res.2) args s 0 0 (Ab G)) (F0 m 75 ls [.int s0]) := by
  unfold BX10_is_75 at h
  have hx := C.1.1
  have hb := C.1.2.1
  refine lv_istore_n (lv' := [(2, .int s0), (0, .ref (gR G 142)), (1, .ref (gK G l1)), (3, .int l3)]) hx hb dX10_is_75 rfl hl (by decide) rfl (fun ls hl => ?_)
  refine R_vi h (fun x1 ex1 h => ?_)
  refine lv_iinc (v := x1) (lv' := [(3, .int x1), (2, .int s0), (0, .ref (gR G 142)), (1, .ref (gK G l1))]) hx hb dX10_is_76 hl (k := 3) rfl (by rw [ex1]; rfl) (by decide) rfl (fun ls hl => ?_)
  refine lv_goto (tgt := 39) hx hb dX10_is_79 (by decide) ?_
  exact hr39 l1 s0 x1 _ _ _ _ _  hd (lv_sub hl [2, 3, 1, 0] rfl) h
def KX10_is_39 (r39 : Nat → Int32 → Int32 → St → Option (Int32 × St)) (l1 : Nat) (l2 : Int32) (l3 : Int32) (S : St) : Option (Int32 × St) :=
  (if l2 = 0 then rz l2 S else sl l1 fun x2 => (if x2 ≤ l3 then rz l2 S else sh l1 l3 fun x4 => rd S 157 ((S 142 22) + l3) fun x6 => (if x4 = x6 then (BX10_is_75 r39 l1 l3 1 S) else (BX10_is_75 r39 l1 l3 0 S))))
set_option maxHeartbeats 4000000 in
set_option maxRecDepth 20000 in
theorem sKX10_is_39 (C : Cx p s m args meth c cX10_is 4 RX10 G) (hr : meth.sig.returnType = some .boolean) {r39 : Nat → Int32 → Int32 → St → Option (Int32 × St)} (hr39 : ∀ (l1 : Nat) (l2 : Int32) (l3 : Int32) (S : St) (res : (Int32 × St)) (H : Heap) (locs : List Loc) (ls : Array Slot), Dy G S s H locs → lv_has ls 4 [(0, .ref (gR G 142)), (1, .ref (gK G l1)), (2, .int l2), (3, .int l3)] → r39 l1 l2 l3 S = some res → W p l e (rmL 6 0 0) s m args below meth c H locs 0 0 (MQ below (QI G res.1 res.2) args s 0 0 (Ab G)) (F0 m 39 ls [])) {l1 : Nat} {l2 : Int32} {l3 : Int32} {S : St} {res : (Int32 × St)} {H : Heap} {locs : List Loc} {ls : Array Slot}  (hd : Dy G S s H locs) (hl : lv_has ls 4 [(0, .ref (gR G 142)), (1, .ref (gK G l1)), (2, .int l2), (3, .int l3)]) (h : KX10_is_39 r39 l1 l2 l3 S = some res) : W p l e (rmL 6 0 0) s m args below meth c H locs 0 0 (MQ below (QI G res.1 res.2) args s 0 0 (Ab G)) (F0 m 39 ls []) := by
  unfold KX10_is_39 at h
  have hx := C.1.1
  have hb := C.1.2.1
  refine lv_iload_n hx hb dX10_is_39 rfl (lv_at hl 2 rfl) ?_
  refine lv_if_eq (tgt := 82) hx hb dX10_is_40 (by decide) (fun c1 => ?_) (fun c1 => ?_)
  · rw [if_pos c1] at h
    refine lv_iload_n hx hb dX10_is_82 rfl (lv_at hl 2 rfl) ?_
    exact R_zret C hr hd h dX10_is_83
  · rw [if_neg c1] at h
    refine lv_iload_n hx hb dX10_is_43 rfl (lv_at hl 3 rfl) ?_
    refine lv_aload_n hx hb dX10_is_44 rfl (lv_at hl 1 rfl) ?_
    refine R_slen C hl.1 ksX10_222 hd h ⟨by decide, by decide⟩ (Nat.le_of_ble_eq_true rfl) ⟨Nat.zero_le _, Nat.zero_le _⟩ dX10_is_45 (fun x2 H locs hd h => ?_)
    refine lv_icmp_ge (tgt := 82) hx hb dX10_is_48 (by decide) (fun c3 => ?_) (fun c3 => ?_)
    · rw [if_pos c3] at h
      refine lv_iload_n hx hb dX10_is_82 rfl (lv_at hl 2 rfl) ?_
      exact R_zret C hr hd h dX10_is_83
    · rw [if_neg c3] at h
      refine lv_aload_n hx hb dX10_is_51 rfl (lv_at hl 1 rfl) ?_
      refine lv_iload_n hx hb dX10_is_52 rfl (lv_at hl 3 rfl) ?_
      refine R_sch C hl.1 ksX10_226 hd h ⟨by decide, by decide⟩ (Nat.le_of_ble_eq_true rfl) ⟨Nat.zero_le _, Nat.zero_le _⟩ dX10_is_53 (fun x4 H locs hd h => ?_)
      refine lv_aload_n hx hb dX10_is_56 rfl (lv_at hl 0 rfl) ?_
      refine gX10_74 C hd (rfl : kd 142 = 10) (q := 157) rfl dX10_is_57 (fun y5 => ?_)
      refine lv_aload_n hx hb dX10_is_60 rfl (lv_at hl 0 rfl) ?_
      refine gX10_187 C hd (rfl : kd 142 = 10) dX10_is_61 ?_
      refine lv_iload_n hx hb dX10_is_64 rfl (lv_at hl 3 rfl) ?_
      refine lv_iadd hx hb dX10_is_65 ?_
      refine R_iald C hd y5 h dX10_is_66 (fun x6 h => ?_)
      refine lv_icmp_ne (tgt := 74) hx hb dX10_is_67 (by decide) (fun c7 => ?_) (fun c7 => ?_)
      · rw [if_neg c7] at h
        refine lv_iconst (v := 0) hx hb dX10_is_74 (by decide) ?_
        exact sBX10_is_75 C hr hr39  hd (lv_sub hl [0, 1, 3] rfl) h
      · rw [if_pos c7] at h
        refine lv_iconst (v := 1) hx hb dX10_is_70 (by decide) ?_
        refine lv_goto (tgt := 75) hx hb dX10_is_71 (by decide) ?_
        exact sBX10_is_75 C hr hr39  hd (lv_sub hl [0, 1, 3] rfl) h
def LX10_is_39 : Nat → Nat → Int32 → Int32 → St → Option (Int32 × St)
  | 0 => fun _ _ _ _ => none
  | n + 1 => fun l1 l2 l3 S => KX10_is_39 (LX10_is_39 n) l1 l2 l3 S
theorem sLX10_is_39 (C : Cx p s m args meth c cX10_is 4 RX10 G) (hr : meth.sig.returnType = some .boolean) : ∀ (n : Nat) (l1 : Nat) (l2 : Int32) (l3 : Int32) (S : St) (res : (Int32 × St)) (H : Heap) (locs : List Loc) (ls : Array Slot), Dy G S s H locs → lv_has ls 4 [(0, .ref (gR G 142)), (1, .ref (gK G l1)), (2, .int l2), (3, .int l3)] → LX10_is_39 n l1 l2 l3 S = some res → W p l e (rmL 6 0 0) s m args below meth c H locs 0 0 (MQ below (QI G res.1 res.2) args s 0 0 (Ab G)) (F0 m 39 ls []) := by
  intro n
  induction n with
  | zero => intro l1 l2 l3 S res H locs ls  hd hl h; cases h
  | succ n ih =>
    intro l1 l2 l3 S res H locs ls  hd hl h
    exact sKX10_is_39 C hr ih  hd hl h
def BX10_is_36 (l1 : Nat) (s0 : Int32) (S : St) : Option (Int32 × St) :=
  (LX10_is_39 FU l1 s0 0 S)
set_option maxHeartbeats 4000000 in
set_option maxRecDepth 20000 in
theorem sBX10_is_36 (C : Cx p s m args meth c cX10_is 4 RX10 G) (hr : meth.sig.returnType = some .boolean) {l1 : Nat} {s0 : Int32} {S : St} {res : (Int32 × St)} {H : Heap} {locs : List Loc} {ls : Array Slot}  (hd : Dy G S s H locs) (hl : lv_has ls 4 [(0, .ref (gR G 142)), (1, .ref (gK G l1))]) (h : BX10_is_36 l1 s0 S = some res) : W p l e (rmL 6 0 0) s m args below meth c H locs 0 0 (MQ below (QI G res.1 res.2) args s 0 0 (Ab G)) (F0 m 36 ls [.int s0]) := by
  unfold BX10_is_36 at h
  have hx := C.1.1
  have hb := C.1.2.1
  refine lv_istore_n (lv' := [(2, .int s0), (0, .ref (gR G 142)), (1, .ref (gK G l1))]) hx hb dX10_is_36 rfl hl (by decide) rfl (fun ls hl => ?_)
  refine lv_iconst (v := 0) hx hb dX10_is_37 (by decide) ?_
  refine lv_istore_n (lv' := [(3, .int 0), (2, .int s0), (0, .ref (gR G 142)), (1, .ref (gK G l1))]) hx hb dX10_is_38 rfl hl (by decide) rfl (fun ls hl => ?_)
  exact sLX10_is_39 C hr _ l1 s0 0 _ _ _ _ _  hd (lv_sub hl [2, 3, 1, 0] rfl) h
def BX10_is_35 (l1 : Nat) (S : St) : Option (Int32 × St) :=
  (BX10_is_36 l1 0 S)
set_option maxHeartbeats 4000000 in
set_option maxRecDepth 20000 in
theorem sBX10_is_35 (C : Cx p s m args meth c cX10_is 4 RX10 G) (hr : meth.sig.returnType = some .boolean) {l1 : Nat} {S : St} {res : (Int32 × St)} {H : Heap} {locs : List Loc} {ls : Array Slot}  (hd : Dy G S s H locs) (hl : lv_has ls 4 [(0, .ref (gR G 142)), (1, .ref (gK G l1))]) (h : BX10_is_35 l1 S = some res) : W p l e (rmL 6 0 0) s m args below meth c H locs 0 0 (MQ below (QI G res.1 res.2) args s 0 0 (Ab G)) (F0 m 35 ls []) := by
  unfold BX10_is_35 at h
  have hx := C.1.1
  have hb := C.1.2.1
  refine lv_iconst (v := 0) hx hb dX10_is_35 (by decide) ?_
  exact sBX10_is_36 C hr  hd (lv_sub hl [0, 1] rfl) h
def fX10_is (a1 : Nat) (S : St) : Option (Int32 × St) :=
  (if (S 142 24) = 0 then (if (S 142 20) = 1 then sl a1 fun x3 => (if x3 = ((S 142 23) - (S 142 22)) then (BX10_is_36 a1 1 S) else (BX10_is_35 a1 S)) else (BX10_is_35 a1 S)) else (BX10_is_35 a1 S))
set_option maxHeartbeats 4000000 in
set_option maxRecDepth 20000 in
theorem sfX10_is (C : Cx p s m args meth c cX10_is 4 RX10 G) (hr : meth.sig.returnType = some .boolean) {a1 : Nat} {S : St} {res : (Int32 × St)} {H : Heap} {locs : List Loc} {ls : Array Slot}  (hd : Dy G S s H locs) (hl : lv_has ls 4 [(0, .ref (gR G 142)), (1, .ref (gK G a1))]) (h : fX10_is a1 S = some res) : W p l e (rmL 6 0 0) s m args below meth c H locs 0 0 (MQ below (QI G res.1 res.2) args s 0 0 (Ab G)) (F0 m 0 ls []) := by
  unfold fX10_is at h
  have hx := C.1.1
  have hb := C.1.2.1
  refine lv_aload_n hx hb dX10_is_0 rfl (lv_at hl 0 rfl) ?_
  refine gX10_216 C hd (rfl : kd 142 = 10) dX10_is_1 ?_
  refine lv_if_ne (tgt := 35) hx hb dX10_is_4 (by decide) (fun c1 => ?_) (fun c1 => ?_)
  · rw [if_neg c1] at h
    exact sBX10_is_35 C hr  hd (lv_sub hl [0, 1] rfl) h
  · rw [if_pos c1] at h
    refine lv_aload_n hx hb dX10_is_7 rfl (lv_at hl 0 rfl) ?_
    refine gX10_190 C hd (rfl : kd 142 = 10) dX10_is_8 ?_
    refine lv_iconst (v := 1) hx hb dX10_is_11 (by decide) ?_
    refine lv_icmp_ne (tgt := 35) hx hb dX10_is_12 (by decide) (fun c2 => ?_) (fun c2 => ?_)
    · rw [if_neg c2] at h
      exact sBX10_is_35 C hr  hd (lv_sub hl [0, 1] rfl) h
    · rw [if_pos c2] at h
      refine lv_aload_n hx hb dX10_is_15 rfl (lv_at hl 1 rfl) ?_
      refine R_slen C hl.1 ksX10_222 hd h ⟨by decide, by decide⟩ (Nat.le_of_ble_eq_true rfl) ⟨Nat.zero_le _, Nat.zero_le _⟩ dX10_is_16 (fun x3 H locs hd h => ?_)
      refine lv_aload_n hx hb dX10_is_19 rfl (lv_at hl 0 rfl) ?_
      refine gX10_213 C hd (rfl : kd 142 = 10) dX10_is_20 ?_
      refine lv_aload_n hx hb dX10_is_23 rfl (lv_at hl 0 rfl) ?_
      refine gX10_187 C hd (rfl : kd 142 = 10) dX10_is_24 ?_
      refine lv_isub hx hb dX10_is_27 ?_
      refine lv_icmp_ne (tgt := 35) hx hb dX10_is_28 (by decide) (fun c4 => ?_) (fun c4 => ?_)
      · rw [if_neg c4] at h
        exact sBX10_is_35 C hr  hd (lv_sub hl [0, 1] rfl) h
      · rw [if_pos c4] at h
        refine lv_iconst (v := 1) hx hb dX10_is_31 (by decide) ?_
        refine lv_goto (tgt := 36) hx hb dX10_is_32 (by decide) ?_
        exact sBX10_is_36 C hr  hd (lv_sub hl [0, 1] rfl) h
set_option maxRecDepth 20000 in
theorem ccX10_is (l : Launch) (G : Gt) {a1 : Nat} {S : St} {res : (Int32 × St)}  (h : fX10_is a1 S = some res) : Met l yX10_is (wm yX10_is cX10_is 4 (some .boolean)) (rmL 6 0 0) (PcW G S [.ref (gR G 142), .ref (gK G a1)]) (QI G res.1 res.2) 0 0 (Ab G) := by
  refine Met.ofW (cc := cX10_is) (maxL := 4) (ret := (some .boolean)) (by decide) rfl ?_
  intro p e s m args below meth c s₁ B hml hv
  obtain ⟨rfl, hK, hP⟩ := hv
  have C : Cx p s m _ meth c cX10_is 4 RX10 G := ⟨⟨B.exec, B.bytes, hml, findClass_of_methodNamed B.named, fun w hw => atoms_spec (ws := wm yX10_is cX10_is 4 (some .boolean)) B.pre w (List.mem_cons_of_mem _ hw)⟩, B.notSynchronized, hK⟩
  have hl := lv_entry ([.ref (gR G 142), .ref (gK G a1)]) (n := 4) (Nat.le_of_ble_eq_true rfl)
  rw [lg_entry_eq]
  generalize (lg_sl ([.ref (gR G 142), .ref (gK G a1)]) ++ List.replicate (4 - (lg_sl ([.ref (gR G 142), .ref (gK G a1)])).length) Slot.unset).toArray = ls at hl ⊢
  exact sfX10_is C B.returns  ⟨hP, va_S.rf⟩ hl h
def KX10_which_2 (r2 : Nat → Int32 → St → Option (Int32 × St)) (l1 : Nat) (l2 : Int32) (S : St) : Option (Int32 × St) :=
  (if (nI (ln l1)) ≤ l2 then ri ((-1)) S else rt l1 l2 fun q2 => bd (fX10_is q2 S) fun x3 S => (if x3 = 0 then vl (l2 + 1) fun x5 => (r2 l1 x5 S) else ri l2 S))
set_option maxHeartbeats 4000000 in
set_option maxRecDepth 20000 in
theorem sKX10_which_2 (C : Cx p s m args meth c cX10_which 3 RX10 G) (hr : meth.sig.returnType = some .int) {r2 : Nat → Int32 → St → Option (Int32 × St)} (hr2 : ∀ (l1 : Nat) (l2 : Int32) (S : St) (res : (Int32 × St)) (H : Heap) (locs : List Loc) (ls : Array Slot), kd l1 = 23 → Dy G S s H locs → lv_has ls 3 [(0, .ref (gR G 142)), (1, .ref (gR G l1)), (2, .int l2)] → r2 l1 l2 S = some res → W p l e (rmL 7 0 0) s m args below meth c H locs 0 0 (MQ below (QI G res.1 res.2) args s 0 0 (Ab G)) (F0 m 2 ls [])) {l1 : Nat} {l2 : Int32} {S : St} {res : (Int32 × St)} {H : Heap} {locs : List Loc} {ls : Array Slot} (kl1 : kd l1 = 23) (hd : Dy G S s H locs) (hl : lv_has ls 3 [(0, .ref (gR G 142)), (1, .ref (gR G l1)), (2, .int l2)]) (h : KX10_which_2 r2 l1 l2 S = some res) : W p l e (rmL 7 0 0) s m args below meth c H locs 0 0 (MQ below (QI G res.1 res.2) args s 0 0 (Ab G)) (F0 m 2 ls []) := by
  unfold KX10_which_2 at h
  have hx := C.1.1
  have hb := C.1.2.1
  refine lv_iload_n hx hb dX10_which_2 rfl (lv_at hl 2 rfl) ?_
  refine lv_aload_n hx hb dX10_which_3 rfl (lv_at hl 1 rfl) ?_
  refine R_alenT C hd kl1 (v := nI (ln l1)) rfl dX10_which_4 ?_
  refine lv_icmp_ge (tgt := 26) hx hb dX10_which_5 (by decide) (fun c1 => ?_) (fun c1 => ?_)
  · rw [if_pos c1] at h
    refine lv_iconst (v := -1) hx hb dX10_which_26 (by decide) ?_
    exact R_iret C hr hd h dX10_which_27
  · rw [if_neg c1] at h
    refine lv_aload_n hx hb dX10_which_8 rfl (lv_at hl 0 rfl) ?_
    refine lv_aload_n hx hb dX10_which_9 rfl (lv_at hl 1 rfl) ?_
    refine lv_iload_n hx hb dX10_which_10 rfl (lv_at hl 2 rfl) ?_
    refine R_aalt C hd kl1 h dX10_which_11 (fun q2 h => ?_)
    obtain ⟨x3, S1, hc, h⟩ := bd_some h
    refine R_cVi C hd (ccX10_is l G  hc) kX10_230 rfl (by decide) (rfl : kd 142 = 10) hl.1 ⟨by decide, by decide⟩ rfl rfl (Nat.le_of_ble_eq_true rfl) dX10_which_12 ⟨Nat.zero_le _, Nat.zero_le _⟩ (fun H locs hd => ?_)
    generalize S1 = S at h hd
    refine lv_if_eq (tgt := 20) hx hb dX10_which_15 (by decide) (fun c4 => ?_) (fun c4 => ?_)
    · rw [if_pos c4] at h
      refine R_vi h (fun x5 ex5 h => ?_)
      refine lv_iinc (v := x5) (lv' := [(2, .int x5), (0, .ref (gR G 142)), (1, .ref (gR G l1))]) hx hb dX10_which_20 hl (k := 2) rfl (by rw [ex5]; rfl) (by decide) rfl (fun ls hl => ?_)
      refine lv_goto (tgt := 2) hx hb dX10_which_23 (by decide) ?_
      exact hr2 l1 x5 _ _ _ _ _ kl1 hd (lv_sub hl [1, 2, 0] rfl) h
    · rw [if_neg c4] at h
      refine lv_iload_n hx hb dX10_which_18 rfl (lv_at hl 2 rfl) ?_
      exact R_iret C hr hd h dX10_which_19
def LX10_which_2 : Nat → Nat → Int32 → St → Option (Int32 × St)
  | 0 => fun _ _ _ => none
  | n + 1 => fun l1 l2 S => KX10_which_2 (LX10_which_2 n) l1 l2 S
theorem sLX10_which_2 (C : Cx p s m args meth c cX10_which 3 RX10 G) (hr : meth.sig.returnType = some .int) : ∀ (n : Nat) (l1 : Nat) (l2 : Int32) (S : St) (res : (Int32 × St)) (H : Heap) (locs : List Loc) (ls : Array Slot), kd l1 = 23 → Dy G S s H locs → lv_has ls 3 [(0, .ref (gR G 142)), (1, .ref (gR G l1)), (2, .int l2)] → LX10_which_2 n l1 l2 S = some res → W p l e (rmL 7 0 0) s m args below meth c H locs 0 0 (MQ below (QI G res.1 res.2) args s 0 0 (Ab G)) (F0 m 2 ls []) := by
  intro n
  induction n with
  | zero => intro l1 l2 S res H locs ls kl1 hd hl h; cases h
  | succ n ih =>
    intro l1 l2 S res H locs ls kl1 hd hl h
    exact sKX10_which_2 C hr ih kl1 hd hl h
def fX10_which (a1 : Nat) (S : St) : Option (Int32 × St) :=
  (LX10_which_2 FU a1 0 S)
set_option maxHeartbeats 4000000 in
set_option maxRecDepth 20000 in
theorem sfX10_which (C : Cx p s m args meth c cX10_which 3 RX10 G) (hr : meth.sig.returnType = some .int) {a1 : Nat} {S : St} {res : (Int32 × St)} {H : Heap} {locs : List Loc} {ls : Array Slot} (k1 : kd a1 = 23) (hd : Dy G S s H locs) (hl : lv_has ls 3 [(0, .ref (gR G 142)), (1, .ref (gR G a1))]) (h : fX10_which a1 S = some res) : W p l e (rmL 7 0 0) s m args below meth c H locs 0 0 (MQ below (QI G res.1 res.2) args s 0 0 (Ab G)) (F0 m 0 ls []) := by
  unfold fX10_which at h
  have hx := C.1.1
  have hb := C.1.2.1
  refine lv_iconst (v := 0) hx hb dX10_which_0 (by decide) ?_
  refine lv_istore_n (lv' := [(2, .int 0), (0, .ref (gR G 142)), (1, .ref (gR G a1))]) hx hb dX10_which_1 rfl hl (by decide) rfl (fun ls hl => ?_)
  exact sLX10_which_2 C hr _ a1 0 _ _ _ _ _ k1 hd (lv_sub hl [1, 2, 0] rfl) h
set_option maxRecDepth 20000 in
theorem ccX10_which (l : Launch) (G : Gt) {a1 : Nat} {S : St} {res : (Int32 × St)} (k1 : kd a1 = 23) (h : fX10_which a1 S = some res) : Met l yX10_which (wm yX10_which cX10_which 3 (some .int)) (rmL 7 0 0) (PcW G S [.ref (gR G 142), .ref (gR G a1)]) (QI G res.1 res.2) 0 0 (Ab G) := by
  refine Met.ofW (cc := cX10_which) (maxL := 3) (ret := (some .int)) (by decide) rfl ?_
  intro p e s m args below meth c s₁ B hml hv
  obtain ⟨rfl, hK, hP⟩ := hv
  have C : Cx p s m _ meth c cX10_which 3 RX10 G := ⟨⟨B.exec, B.bytes, hml, findClass_of_methodNamed B.named, fun w hw => atoms_spec (ws := wm yX10_which cX10_which 3 (some .int)) B.pre w (List.mem_cons_of_mem _ hw)⟩, B.notSynchronized, hK⟩
  have hl := lv_entry ([.ref (gR G 142), .ref (gR G a1)]) (n := 3) (Nat.le_of_ble_eq_true rfl)
  rw [lg_entry_eq]
  generalize (lg_sl ([.ref (gR G 142), .ref (gR G a1)]) ++ List.replicate (3 - (lg_sl ([.ref (gR G 142), .ref (gR G a1)])).length) Slot.unset).toArray = ls at hl ⊢
  exact sfX10_which C B.returns k1 ⟨hP, va_S.rf⟩ hl h
def fX10_isMarked (a1 : Int32) (S : St) : Option (Int32 × St) :=
  (if (S 142 24) = 0 then (if (S 142 20) = 3 then rd S 157 (S 142 22) fun x4 => (if x4 = a1 then rz 1 S else rz 0 S) else rz 0 S) else rz 0 S)
set_option maxHeartbeats 4000000 in
set_option maxRecDepth 20000 in
theorem sfX10_isMarked (C : Cx p s m args meth c cX10_isMarked 2 RX10 G) (hr : meth.sig.returnType = some .boolean) {a1 : Int32} {S : St} {res : (Int32 × St)} {H : Heap} {locs : List Loc} {ls : Array Slot}  (hd : Dy G S s H locs) (hl : lv_has ls 2 [(0, .ref (gR G 142)), (1, .int a1)]) (h : fX10_isMarked a1 S = some res) : W p l e (rmL 3 0 0) s m args below meth c H locs 0 0 (MQ below (QI G res.1 res.2) args s 0 0 (Ab G)) (F0 m 0 ls []) := by
  unfold fX10_isMarked at h
  have hx := C.1.1
  have hb := C.1.2.1
  refine lv_aload_n hx hb dX10_isMarked_0 rfl (lv_at hl 0 rfl) ?_
  refine gX10_216 C hd (rfl : kd 142 = 10) dX10_isMarked_1 ?_
  refine lv_if_ne (tgt := 32) hx hb dX10_isMarked_4 (by decide) (fun c1 => ?_) (fun c1 => ?_)
  · rw [if_neg c1] at h
    refine lv_iconst (v := 0) hx hb dX10_isMarked_32 (by decide) ?_
    exact R_zret C hr hd h dX10_isMarked_33
  · rw [if_pos c1] at h
    refine lv_aload_n hx hb dX10_isMarked_7 rfl (lv_at hl 0 rfl) ?_
    refine gX10_190 C hd (rfl : kd 142 = 10) dX10_isMarked_8 ?_
    refine lv_iconst (v := 3) hx hb dX10_isMarked_11 (by decide) ?_
    refine lv_icmp_ne (tgt := 32) hx hb dX10_isMarked_12 (by decide) (fun c2 => ?_) (fun c2 => ?_)
    · rw [if_neg c2] at h
      refine lv_iconst (v := 0) hx hb dX10_isMarked_32 (by decide) ?_
      exact R_zret C hr hd h dX10_isMarked_33
    · rw [if_pos c2] at h
      refine lv_aload_n hx hb dX10_isMarked_15 rfl (lv_at hl 0 rfl) ?_
      refine gX10_74 C hd (rfl : kd 142 = 10) (q := 157) rfl dX10_isMarked_16 (fun y3 => ?_)
      refine lv_aload_n hx hb dX10_isMarked_19 rfl (lv_at hl 0 rfl) ?_
      refine gX10_187 C hd (rfl : kd 142 = 10) dX10_isMarked_20 ?_
      refine R_iald C hd y3 h dX10_isMarked_23 (fun x4 h => ?_)
      refine lv_iload_n hx hb dX10_isMarked_24 rfl (lv_at hl 1 rfl) ?_
      refine lv_icmp_ne (tgt := 32) hx hb dX10_isMarked_25 (by decide) (fun c5 => ?_) (fun c5 => ?_)
      · rw [if_neg c5] at h
        refine lv_iconst (v := 0) hx hb dX10_isMarked_32 (by decide) ?_
        exact R_zret C hr hd h dX10_isMarked_33
      · rw [if_pos c5] at h
        refine lv_iconst (v := 1) hx hb dX10_isMarked_28 (by decide) ?_
        refine lv_goto (tgt := 33) hx hb dX10_isMarked_29 (by decide) ?_
        exact R_zret C hr hd h dX10_isMarked_33
set_option maxRecDepth 20000 in
theorem ccX10_isMarked (l : Launch) (G : Gt) {a1 : Int32} {S : St} {res : (Int32 × St)}  (h : fX10_isMarked a1 S = some res) : Met l yX10_isMarked (wm yX10_isMarked cX10_isMarked 2 (some .boolean)) (rmL 3 0 0) (PcW G S [.ref (gR G 142), .int a1]) (QI G res.1 res.2) 0 0 (Ab G) := by
  refine Met.ofW (cc := cX10_isMarked) (maxL := 2) (ret := (some .boolean)) (by decide) rfl ?_
  intro p e s m args below meth c s₁ B hml hv
  obtain ⟨rfl, hK, hP⟩ := hv
  have C : Cx p s m _ meth c cX10_isMarked 2 RX10 G := ⟨⟨B.exec, B.bytes, hml, findClass_of_methodNamed B.named, fun w hw => atoms_spec (ws := wm yX10_isMarked cX10_isMarked 2 (some .boolean)) B.pre w (List.mem_cons_of_mem _ hw)⟩, B.notSynchronized, hK⟩
  have hl := lv_entry ([.ref (gR G 142), .int a1]) (n := 2) (Nat.le_of_ble_eq_true rfl)
  rw [lg_entry_eq]
  generalize (lg_sl ([.ref (gR G 142), .int a1]) ++ List.replicate (2 - (lg_sl ([.ref (gR G 142), .int a1])).length) Slot.unset).toArray = ls at hl ⊢
  exact sfX10_isMarked C B.returns  ⟨hP, va_S.rf⟩ hl h
def BX10_mark_20  (S : St) : Option St :=
  (if (S 142 24) = 0 then bv (fX10_stepOn  S) fun S => some S else some S)
set_option maxHeartbeats 4000000 in
set_option maxRecDepth 20000 in
theorem sBX10_mark_20 (C : Cx p s m args meth c cX10_mark 2 RX10 G) (hr : meth.sig.returnType = none)  {S : St} {res : St} {H : Heap} {locs : List Loc} {ls : Array Slot}  (hd : Dy G S s H locs) (hl : lv_has ls 2 [(0, .ref (gR G 142))]) (h : BX10_mark_20  S = some res) : W p l e (rmL 5 0 0) s m args below meth c H locs 0 0 (MQ below (QV G res) args s 0 0 (Ab G)) (F0 m 20 ls []) := by
  unfold BX10_mark_20 at h
  have hx := C.1.1
  have hb := C.1.2.1
  refine lv_aload_n hx hb dX10_mark_20 rfl (lv_at hl 0 rfl) ?_
  refine gX10_216 C hd (rfl : kd 142 = 10) dX10_mark_21 ?_
  refine lv_if_ne (tgt := 31) hx hb dX10_mark_24 (by decide) (fun c1 => ?_) (fun c1 => ?_)
  · rw [if_neg c1] at h
    exact R_vret C hr hd h dX10_mark_31
  · rw [if_pos c1] at h
    refine lv_aload_n hx hb dX10_mark_27 rfl (lv_at hl 0 rfl) ?_
    obtain ⟨S1, hc, h⟩ := bv_some h
    refine R_cVv C hd (ccX10_stepOn l G  hc) kX10_241 rfl (by decide) (rfl : kd 142 = 10) hl.1 ⟨by decide, by decide⟩ rfl rfl (Nat.le_of_ble_eq_true rfl) dX10_mark_28 ⟨Nat.zero_le _, Nat.zero_le _⟩ (fun H locs hd => ?_)
    generalize S1 = S at h hd
    exact R_vret C hr hd h dX10_mark_31
def fX10_mark (a1 : Int32) (S : St) : Option St :=
  (if (S 142 24) = 0 then bd (fX10_isMarked a1 S) fun x2 S => (if x2 = 0 then bv (fX10_wrong 1 S) fun S => (BX10_mark_20  S) else (BX10_mark_20  S)) else (BX10_mark_20  S))
set_option maxHeartbeats 4000000 in
set_option maxRecDepth 20000 in
theorem sfX10_mark (C : Cx p s m args meth c cX10_mark 2 RX10 G) (hr : meth.sig.returnType = none) {a1 : Int32} {S : St} {res : St} {H : Heap} {locs : List Loc} {ls : Array Slot}  (hd : Dy G S s H locs) (hl : lv_has ls 2 [(0, .ref (gR G 142)), (1, .int a1)]) (h : fX10_mark a1 S = some res) : W p l e (rmL 5 0 0) s m args below meth c H locs 0 0 (MQ below (QV G res) args s 0 0 (Ab G)) (F0 m 0 ls []) := by
  unfold fX10_mark at h
  have hx := C.1.1
  have hb := C.1.2.1
  refine lv_aload_n hx hb dX10_mark_0 rfl (lv_at hl 0 rfl) ?_
  refine gX10_216 C hd (rfl : kd 142 = 10) dX10_mark_1 ?_
  refine lv_if_ne (tgt := 20) hx hb dX10_mark_4 (by decide) (fun c1 => ?_) (fun c1 => ?_)
  · rw [if_neg c1] at h
    exact sBX10_mark_20 C hr  hd (lv_sub hl [0] rfl) h
  · rw [if_pos c1] at h
    refine lv_aload_n hx hb dX10_mark_7 rfl (lv_at hl 0 rfl) ?_
    refine lv_iload_n hx hb dX10_mark_8 rfl (lv_at hl 1 rfl) ?_
    obtain ⟨x2, S1, hc, h⟩ := bd_some h
    refine R_cVi C hd (ccX10_isMarked l G  hc) kX10_234 rfl (by decide) (rfl : kd 142 = 10) hl.1 ⟨by decide, by decide⟩ rfl rfl (Nat.le_of_ble_eq_true rfl) dX10_mark_9 ⟨Nat.zero_le _, Nat.zero_le _⟩ (fun H locs hd => ?_)
    generalize S1 = S at h hd
    refine lv_if_ne (tgt := 20) hx hb dX10_mark_12 (by decide) (fun c3 => ?_) (fun c3 => ?_)
    · rw [if_neg c3] at h
      exact sBX10_mark_20 C hr  hd (lv_sub hl [0] rfl) h
    · rw [if_pos c3] at h
      refine lv_aload_n hx hb dX10_mark_15 rfl (lv_at hl 0 rfl) ?_
      refine lv_iconst (v := 1) hx hb dX10_mark_16 (by decide) ?_
      obtain ⟨S1, hc, h⟩ := bv_some h
      refine R_cVv C hd (ccX10_wrong l G  hc) kX10_237 rfl (by decide) (rfl : kd 142 = 10) hl.1 ⟨by decide, by decide⟩ rfl rfl (Nat.le_of_ble_eq_true rfl) dX10_mark_17 ⟨Nat.zero_le _, Nat.zero_le _⟩ (fun H locs hd => ?_)
      generalize S1 = S at h hd
      exact sBX10_mark_20 C hr  hd (lv_sub hl [0] rfl) h
set_option maxRecDepth 20000 in
theorem ccX10_mark (l : Launch) (G : Gt) {a1 : Int32} {S : St} {res : St}  (h : fX10_mark a1 S = some res) : Met l yX10_mark (wm yX10_mark cX10_mark 2 (none)) (rmL 5 0 0) (PcW G S [.ref (gR G 142), .int a1]) (QV G res) 0 0 (Ab G) := by
  refine Met.ofW (cc := cX10_mark) (maxL := 2) (ret := none) (by decide) rfl ?_
  intro p e s m args below meth c s₁ B hml hv
  obtain ⟨rfl, hK, hP⟩ := hv
  have C : Cx p s m _ meth c cX10_mark 2 RX10 G := ⟨⟨B.exec, B.bytes, hml, findClass_of_methodNamed B.named, fun w hw => atoms_spec (ws := wm yX10_mark cX10_mark 2 (none)) B.pre w (List.mem_cons_of_mem _ hw)⟩, B.notSynchronized, hK⟩
  have hl := lv_entry ([.ref (gR G 142), .int a1]) (n := 2) (Nat.le_of_ble_eq_true rfl)
  rw [lg_entry_eq]
  generalize (lg_sl ([.ref (gR G 142), .int a1]) ++ List.replicate (2 - (lg_sl ([.ref (gR G 142), .int a1])).length) Slot.unset).toArray = ls at hl ⊢
  exact sfX10_mark C B.returns  ⟨hP, va_S.rf⟩ hl h
def BX10_numberNow_59  (S : St) : Option (Int32 × St) :=
  (if (S 142 24) = 0 then ri (S 142 21) S else ri 0 S)
set_option maxHeartbeats 4000000 in
set_option maxRecDepth 20000 in
theorem sBX10_numberNow_59 (C : Cx p s m args meth c cX10_numberNow 3 RX10 G) (hr : meth.sig.returnType = some .int)  {S : St} {res : (Int32 × St)} {H : Heap} {locs : List Loc} {ls : Array Slot}  (hd : Dy G S s H locs) (hl : lv_has ls 3 [(0, .ref (gR G 142))]) (h : BX10_numberNow_59  S = some res) : W p l e (rmL 4 0 0) s m args below meth c H locs 0 0 (MQ below (QI G res.1 res.2) args s 0 0 (Ab G)) (F0 m 59 ls []) := by
  unfold BX10_numberNow_59 at h
  have hx := C.1.1
  have hb := C.1.2.1
  refine lv_aload_n hx hb dX10_numberNow_59 rfl (lv_at hl 0 rfl) ?_
  refine gX10_216 C hd (rfl : kd 142 = 10) dX10_numberNow_60 ?_
  refine lv_if_ne (tgt := 73) hx hb dX10_numberNow_63 (by decide) (fun c1 => ?_) (fun c1 => ?_)
  · rw [if_neg c1] at h
    refine lv_iconst (v := 0) hx hb dX10_numberNow_73 (by decide) ?_
    exact R_iret C hr hd h dX10_numberNow_74
  · rw [if_pos c1] at h
    refine lv_aload_n hx hb dX10_numberNow_66 rfl (lv_at hl 0 rfl) ?_
    refine gX10_200 C hd (rfl : kd 142 = 10) dX10_numberNow_67 ?_
    refine lv_goto (tgt := 74) hx hb dX10_numberNow_70 (by decide) ?_
    exact R_iret C hr hd h dX10_numberNow_74
def BX10_numberNow_54  (S : St) : Option (Int32 × St) :=
  bv (fX10_wrong 2 S) fun S => (BX10_numberNow_59  S)
set_option maxHeartbeats 4000000 in
set_option maxRecDepth 20000 in
theorem sBX10_numberNow_54 (C : Cx p s m args meth c cX10_numberNow 3 RX10 G) (hr : meth.sig.returnType = some .int)  {S : St} {res : (Int32 × St)} {H : Heap} {locs : List Loc} {ls : Array Slot}  (hd : Dy G S s H locs) (hl : lv_has ls 3 [(0, .ref (gR G 142))]) (h : BX10_numberNow_54  S = some res) : W p l e (rmL 4 0 0) s m args below meth c H locs 0 0 (MQ below (QI G res.1 res.2) args s 0 0 (Ab G)) (F0 m 54 ls []) := by
  unfold BX10_numberNow_54 at h
  have hx := C.1.1
  have hb := C.1.2.1
  refine lv_aload_n hx hb dX10_numberNow_54 rfl (lv_at hl 0 rfl) ?_
  refine lv_iconst (v := 2) hx hb dX10_numberNow_55 (by decide) ?_
  obtain ⟨S1, hc, h⟩ := bv_some h
  refine R_cVv C hd (ccX10_wrong l G  hc) kX10_237 rfl (by decide) (rfl : kd 142 = 10) hl.1 ⟨by decide, by decide⟩ rfl rfl (Nat.le_of_ble_eq_true rfl) dX10_numberNow_56 ⟨Nat.zero_le _, Nat.zero_le _⟩ (fun H locs hd => ?_)
  generalize S1 = S at h hd
  exact sBX10_numberNow_59 C hr  hd (lv_sub hl [0] rfl) h
def fX10_numberNow (a1 : Int32) (a2 : Int32) (S : St) : Option (Int32 × St) :=
  (if (S 142 24) = 0 then (if (S 142 20) = 2 then (if 4 < ((S 142 23) - (S 142 22)) then (BX10_numberNow_54  S) else (if (S 142 21) < a1 then (BX10_numberNow_54  S) else (if (S 142 21) ≤ a2 then (BX10_numberNow_59  S) else (BX10_numberNow_54  S)))) else bv (fX10_wrong 1 S) fun S => (BX10_numberNow_59  S)) else ri 0 S)
set_option maxHeartbeats 4000000 in
set_option maxRecDepth 20000 in
theorem sfX10_numberNow (C : Cx p s m args meth c cX10_numberNow 3 RX10 G) (hr : meth.sig.returnType = some .int) {a1 : Int32} {a2 : Int32} {S : St} {res : (Int32 × St)} {H : Heap} {locs : List Loc} {ls : Array Slot}  (hd : Dy G S s H locs) (hl : lv_has ls 3 [(0, .ref (gR G 142)), (1, .int a1), (2, .int a2)]) (h : fX10_numberNow a1 a2 S = some res) : W p l e (rmL 4 0 0) s m args below meth c H locs 0 0 (MQ below (QI G res.1 res.2) args s 0 0 (Ab G)) (F0 m 0 ls []) := by
  unfold fX10_numberNow at h
  have hx := C.1.1
  have hb := C.1.2.1
  refine lv_aload_n hx hb dX10_numberNow_0 rfl (lv_at hl 0 rfl) ?_
  refine gX10_216 C hd (rfl : kd 142 = 10) dX10_numberNow_1 ?_
  refine lv_if_eq (tgt := 9) hx hb dX10_numberNow_4 (by decide) (fun c1 => ?_) (fun c1 => ?_)
  · rw [if_pos c1] at h
    refine lv_aload_n hx hb dX10_numberNow_9 rfl (lv_at hl 0 rfl) ?_
    refine gX10_190 C hd (rfl : kd 142 = 10) dX10_numberNow_10 ?_
    refine lv_iconst (v := 2) hx hb dX10_numberNow_13 (by decide) ?_
    refine lv_icmp_eq (tgt := 25) hx hb dX10_numberNow_14 (by decide) (fun c2 => ?_) (fun c2 => ?_)
    · rw [if_pos c2] at h
      refine lv_aload_n hx hb dX10_numberNow_25 rfl (lv_at hl 0 rfl) ?_
      refine gX10_213 C hd (rfl : kd 142 = 10) dX10_numberNow_26 ?_
      refine lv_aload_n hx hb dX10_numberNow_29 rfl (lv_at hl 0 rfl) ?_
      refine gX10_187 C hd (rfl : kd 142 = 10) dX10_numberNow_30 ?_
      refine lv_isub hx hb dX10_numberNow_33 ?_
      refine lv_iconst (v := 4) hx hb dX10_numberNow_34 (by decide) ?_
      refine lv_icmp_gt (tgt := 54) hx hb dX10_numberNow_35 (by decide) (fun c3 => ?_) (fun c3 => ?_)
      · rw [if_pos c3] at h
        exact sBX10_numberNow_54 C hr  hd (lv_sub hl [0] rfl) h
      · rw [if_neg c3] at h
        refine lv_aload_n hx hb dX10_numberNow_38 rfl (lv_at hl 0 rfl) ?_
        refine gX10_200 C hd (rfl : kd 142 = 10) dX10_numberNow_39 ?_
        refine lv_iload_n hx hb dX10_numberNow_42 rfl (lv_at hl 1 rfl) ?_
        refine lv_icmp_lt (tgt := 54) hx hb dX10_numberNow_43 (by decide) (fun c4 => ?_) (fun c4 => ?_)
        · rw [if_pos c4] at h
          exact sBX10_numberNow_54 C hr  hd (lv_sub hl [0] rfl) h
        · rw [if_neg c4] at h
          refine lv_aload_n hx hb dX10_numberNow_46 rfl (lv_at hl 0 rfl) ?_
          refine gX10_200 C hd (rfl : kd 142 = 10) dX10_numberNow_47 ?_
          refine lv_iload_n hx hb dX10_numberNow_50 rfl (lv_at hl 2 rfl) ?_
          refine lv_icmp_le (tgt := 59) hx hb dX10_numberNow_51 (by decide) (fun c5 => ?_) (fun c5 => ?_)
          · rw [if_pos c5] at h
            exact sBX10_numberNow_59 C hr  hd (lv_sub hl [0] rfl) h
          · rw [if_neg c5] at h
            exact sBX10_numberNow_54 C hr  hd (lv_sub hl [0] rfl) h
    · rw [if_neg c2] at h
      refine lv_aload_n hx hb dX10_numberNow_17 rfl (lv_at hl 0 rfl) ?_
      refine lv_iconst (v := 1) hx hb dX10_numberNow_18 (by decide) ?_
      obtain ⟨S1, hc, h⟩ := bv_some h
      refine R_cVv C hd (ccX10_wrong l G  hc) kX10_237 rfl (by decide) (rfl : kd 142 = 10) hl.1 ⟨by decide, by decide⟩ rfl rfl (Nat.le_of_ble_eq_true rfl) dX10_numberNow_19 ⟨Nat.zero_le _, Nat.zero_le _⟩ (fun H locs hd => ?_)
      generalize S1 = S at h hd
      refine lv_goto (tgt := 59) hx hb dX10_numberNow_22 (by decide) ?_
      exact sBX10_numberNow_59 C hr  hd (lv_sub hl [0] rfl) h
  · rw [if_neg c1] at h
    refine lv_iconst (v := 0) hx hb dX10_numberNow_7 (by decide) ?_
    exact R_iret C hr hd h dX10_numberNow_8
set_option maxRecDepth 20000 in
theorem ccX10_numberNow (l : Launch) (G : Gt) {a1 : Int32} {a2 : Int32} {S : St} {res : (Int32 × St)}  (h : fX10_numberNow a1 a2 S = some res) : Met l yX10_numberNow (wm yX10_numberNow cX10_numberNow 3 (some .int)) (rmL 4 0 0) (PcW G S [.ref (gR G 142), .int a1, .int a2]) (QI G res.1 res.2) 0 0 (Ab G) := by
  refine Met.ofW (cc := cX10_numberNow) (maxL := 3) (ret := (some .int)) (by decide) rfl ?_
  intro p e s m args below meth c s₁ B hml hv
  obtain ⟨rfl, hK, hP⟩ := hv
  have C : Cx p s m _ meth c cX10_numberNow 3 RX10 G := ⟨⟨B.exec, B.bytes, hml, findClass_of_methodNamed B.named, fun w hw => atoms_spec (ws := wm yX10_numberNow cX10_numberNow 3 (some .int)) B.pre w (List.mem_cons_of_mem _ hw)⟩, B.notSynchronized, hK⟩
  have hl := lv_entry ([.ref (gR G 142), .int a1, .int a2]) (n := 3) (Nat.le_of_ble_eq_true rfl)
  rw [lg_entry_eq]
  generalize (lg_sl ([.ref (gR G 142), .int a1, .int a2]) ++ List.replicate (3 - (lg_sl ([.ref (gR G 142), .int a1, .int a2])).length) Slot.unset).toArray = ls at hl ⊢
  exact sfX10_numberNow C B.returns  ⟨hP, va_S.rf⟩ hl h
def fX10_readNumber (a1 : Int32) (a2 : Int32) (S : St) : Option (Int32 × St) :=
  bd (fX10_numberNow a1 a2 S) fun x1 S => (if (S 142 24) = 0 then bv (fX10_stepOn  S) fun S => ri x1 S else ri x1 S)
set_option maxHeartbeats 4000000 in
set_option maxRecDepth 20000 in
theorem sfX10_readNumber (C : Cx p s m args meth c cX10_readNumber 4 RX10 G) (hr : meth.sig.returnType = some .int) {a1 : Int32} {a2 : Int32} {S : St} {res : (Int32 × St)} {H : Heap} {locs : List Loc} {ls : Array Slot}  (hd : Dy G S s H locs) (hl : lv_has ls 4 [(0, .ref (gR G 142)), (1, .int a1), (2, .int a2)]) (h : fX10_readNumber a1 a2 S = some res) : W p l e (rmL 5 0 0) s m args below meth c H locs 0 0 (MQ below (QI G res.1 res.2) args s 0 0 (Ab G)) (F0 m 0 ls []) := by
  unfold fX10_readNumber at h
  have hx := C.1.1
  have hb := C.1.2.1
  refine lv_aload_n hx hb dX10_readNumber_0 rfl (lv_at hl 0 rfl) ?_
  refine lv_iload_n hx hb dX10_readNumber_1 rfl (lv_at hl 1 rfl) ?_
  refine lv_iload_n hx hb dX10_readNumber_2 rfl (lv_at hl 2 rfl) ?_
  obtain ⟨x1, S1, hc, h⟩ := bd_some h
  refine R_cVi C hd (ccX10_numberNow l G  hc) kX10_244 rfl (by decide) (rfl : kd 142 = 10) hl.1 ⟨by decide, by decide⟩ rfl rfl (Nat.le_of_ble_eq_true rfl) dX10_readNumber_3 ⟨Nat.zero_le _, Nat.zero_le _⟩ (fun H locs hd => ?_)
  generalize S1 = S at h hd
  refine lv_istore_n (lv' := [(3, .int x1), (0, .ref (gR G 142)), (1, .int a1), (2, .int a2)]) hx hb dX10_readNumber_6 rfl hl (by decide) rfl (fun ls hl => ?_)
  refine lv_aload_n hx hb dX10_readNumber_7 rfl (lv_at hl 1 rfl) ?_
  refine gX10_216 C hd (rfl : kd 142 = 10) dX10_readNumber_8 ?_
  refine lv_if_ne (tgt := 18) hx hb dX10_readNumber_11 (by decide) (fun c2 => ?_) (fun c2 => ?_)
  · rw [if_neg c2] at h
    refine lv_iload_n hx hb dX10_readNumber_18 rfl (lv_at hl 0 rfl) ?_
    exact R_iret C hr hd h dX10_readNumber_19
  · rw [if_pos c2] at h
    refine lv_aload_n hx hb dX10_readNumber_14 rfl (lv_at hl 1 rfl) ?_
    obtain ⟨S1, hc, h⟩ := bv_some h
    refine R_cVv C hd (ccX10_stepOn l G  hc) kX10_241 rfl (by decide) (rfl : kd 142 = 10) hl.1 ⟨by decide, by decide⟩ rfl rfl (Nat.le_of_ble_eq_true rfl) dX10_readNumber_15 ⟨Nat.zero_le _, Nat.zero_le _⟩ (fun H locs hd => ?_)
    generalize S1 = S at h hd
    refine lv_iload_n hx hb dX10_readNumber_18 rfl (lv_at hl 0 rfl) ?_
    exact R_iret C hr hd h dX10_readNumber_19
set_option maxRecDepth 20000 in
theorem ccX10_readNumber (l : Launch) (G : Gt) {a1 : Int32} {a2 : Int32} {S : St} {res : (Int32 × St)}  (h : fX10_readNumber a1 a2 S = some res) : Met l yX10_readNumber (wm yX10_readNumber cX10_readNumber 4 (some .int)) (rmL 5 0 0) (PcW G S [.ref (gR G 142), .int a1, .int a2]) (QI G res.1 res.2) 0 0 (Ab G) := by
  refine Met.ofW (cc := cX10_readNumber) (maxL := 4) (ret := (some .int)) (by decide) rfl ?_
  intro p e s m args below meth c s₁ B hml hv
  obtain ⟨rfl, hK, hP⟩ := hv
  have C : Cx p s m _ meth c cX10_readNumber 4 RX10 G := ⟨⟨B.exec, B.bytes, hml, findClass_of_methodNamed B.named, fun w hw => atoms_spec (ws := wm yX10_readNumber cX10_readNumber 4 (some .int)) B.pre w (List.mem_cons_of_mem _ hw)⟩, B.notSynchronized, hK⟩
  have hl := lv_entry ([.ref (gR G 142), .int a1, .int a2]) (n := 4) (Nat.le_of_ble_eq_true rfl)
  rw [lg_entry_eq]
  generalize (lg_sl ([.ref (gR G 142), .int a1, .int a2]) ++ List.replicate (4 - (lg_sl ([.ref (gR G 142), .int a1, .int a2])).length) Slot.unset).toArray = ls at hl ⊢
  exact sfX10_readNumber C B.returns  ⟨hP, va_S.rf⟩ hl h
def BX10_lay_41 (l1 : Int32) (l2 : Int32) (s0 : Nat) (S : St) : Option St :=
  rd S 145 l2 fun x2 => wr S s0 (700 + x2) l1 fun S => rd S 145 l2 fun x4 => wr S 145 l2 (x4 + 1) fun S => some S
set_option maxHeartbeats 4000000 in
set_option maxRecDepth 20000 in
theorem sBX10_lay_41 (C : Cx p s m args meth c cX10_lay 4 RX10 G) (hr : meth.sig.returnType = none) {l1 : Int32} {l2 : Int32} {s0 : Nat} {S : St} {res : St} {H : Heap} {locs : List Loc} {ls : Array Slot} (ks0 : kd s0 = 20) (hd : Dy G S s H locs) (hl : lv_has ls 4 [(0, .ref (gR G 142)), (1, .int l1), (2, .int l2)]) (h : BX10_lay_41 l1 l2 s0 S = some res) : W p l e (rmL 3 0 0) s m args below meth c H locs 0 0 (MQ below (QV G res) args s 0 0 (Ab G)) (F0 m 41 ls [.ref (gR G s0)]) := by
  unfold BX10_lay_41 at h
  have hx := C.1.1
  have hb := C.1.2.1
  refine lv_astore_n (lv' := [(3, .ref (gR G s0)), (0, .ref (gR G 142)), (1, .int l1), (2, .int l2)]) hx hb dX10_lay_41 rfl hl (by decide) rfl (fun ls hl => ?_)
  refine lv_aload_n hx hb dX10_lay_42 rfl (lv_at hl 0 rfl) ?_
  refine lv_sipush (v := 700) hx hb dX10_lay_43 (by decide) ?_
  refine lv_aload_n hx hb dX10_lay_46 rfl (lv_at hl 1 rfl) ?_
  refine gX10_39 C hd (rfl : kd 142 = 10) (q := 145) rfl dX10_lay_47 (fun y1 => ?_)
  refine lv_iload_n hx hb dX10_lay_50 rfl (lv_at hl 3 rfl) ?_
  refine R_iald C hd y1 h dX10_lay_51 (fun x2 h => ?_)
  refine lv_iadd hx hb dX10_lay_52 ?_
  refine lv_iload_n hx hb dX10_lay_53 rfl (lv_at hl 2 rfl) ?_
  refine R_iast C hd ks0 h dX10_lay_54 (fun S H locs hd h => ?_)
  refine lv_aload_n hx hb dX10_lay_55 rfl (lv_at hl 1 rfl) ?_
  refine gX10_39 C hd (rfl : kd 142 = 10) (q := 145) rfl dX10_lay_56 (fun y3 => ?_)
  refine lv_iload_n hx hb dX10_lay_59 rfl (lv_at hl 3 rfl) ?_
  refine lv_dup2_11 hx hb dX10_lay_60 rfl rfl ?_
  refine R_iald C hd y3 h dX10_lay_61 (fun x4 h => ?_)
  refine lv_iconst (v := 1) hx hb dX10_lay_62 (by decide) ?_
  refine lv_iadd hx hb dX10_lay_63 ?_
  refine R_iast C hd y3 h dX10_lay_64 (fun S H locs hd h => ?_)
  exact R_vret C hr hd h dX10_lay_65
def BX10_lay_21 (l1 : Int32) (s0 : Int32) (s1 : Int32) (S : St) : Option St :=
  vl (s0 + s1) fun x1 => (if (S 142 27) = 0 then (BX10_lay_41 l1 x1 154 S) else (BX10_lay_41 l1 x1 155 S))
set_option maxHeartbeats 4000000 in
set_option maxRecDepth 20000 in
theorem sBX10_lay_21 (C : Cx p s m args meth c cX10_lay 4 RX10 G) (hr : meth.sig.returnType = none) {l1 : Int32} {s0 : Int32} {s1 : Int32} {S : St} {res : St} {H : Heap} {locs : List Loc} {ls : Array Slot}  (hd : Dy G S s H locs) (hl : lv_has ls 4 [(0, .ref (gR G 142)), (1, .int l1)]) (h : BX10_lay_21 l1 s0 s1 S = some res) : W p l e (rmL 3 0 0) s m args below meth c H locs 0 0 (MQ below (QV G res) args s 0 0 (Ab G)) (F0 m 21 ls [.int s1, .int s0]) := by
  unfold BX10_lay_21 at h
  have hx := C.1.1
  have hb := C.1.2.1
  refine lv_iadd hx hb dX10_lay_21 ?_
  refine R_vl h (fun x1 h => ?_)
  refine lv_istore_n (lv' := [(2, .int x1), (0, .ref (gR G 142)), (1, .int l1)]) hx hb dX10_lay_22 rfl hl (by decide) rfl (fun ls hl => ?_)
  refine lv_aload_n hx hb dX10_lay_23 rfl (lv_at hl 1 rfl) ?_
  refine gX10_250 C hd (rfl : kd 142 = 10) dX10_lay_24 ?_
  refine lv_if_eq (tgt := 37) hx hb dX10_lay_27 (by decide) (fun c2 => ?_) (fun c2 => ?_)
  · rw [if_pos c2] at h
    refine lv_aload_n hx hb dX10_lay_37 rfl (lv_at hl 1 rfl) ?_
    refine gX10_65 C hd (rfl : kd 142 = 10) (q := 154) rfl dX10_lay_38 (fun y3 => ?_)
    exact sBX10_lay_41 C hr y3 hd (lv_sub hl [1, 2, 0] rfl) h
  · rw [if_neg c2] at h
    refine lv_aload_n hx hb dX10_lay_30 rfl (lv_at hl 1 rfl) ?_
    refine gX10_68 C hd (rfl : kd 142 = 10) (q := 155) rfl dX10_lay_31 (fun y4 => ?_)
    refine lv_goto (tgt := 41) hx hb dX10_lay_34 (by decide) ?_
    exact sBX10_lay_41 C hr y4 hd (lv_sub hl [1, 2, 0] rfl) h
def fX10_lay (a1 : Int32) (S : St) : Option St :=
  (if (S 142 24) = 0 then (if (S 142 27) = 0 then (BX10_lay_21 a1 5 3 S) else (BX10_lay_21 a1 5 4 S)) else some S)
set_option maxHeartbeats 4000000 in
set_option maxRecDepth 20000 in
theorem sfX10_lay (C : Cx p s m args meth c cX10_lay 4 RX10 G) (hr : meth.sig.returnType = none) {a1 : Int32} {S : St} {res : St} {H : Heap} {locs : List Loc} {ls : Array Slot}  (hd : Dy G S s H locs) (hl : lv_has ls 4 [(0, .ref (gR G 142)), (1, .int a1)]) (h : fX10_lay a1 S = some res) : W p l e (rmL 3 0 0) s m args below meth c H locs 0 0 (MQ below (QV G res) args s 0 0 (Ab G)) (F0 m 0 ls []) := by
  unfold fX10_lay at h
  have hx := C.1.1
  have hb := C.1.2.1
  refine lv_aload_n hx hb dX10_lay_0 rfl (lv_at hl 0 rfl) ?_
  refine gX10_216 C hd (rfl : kd 142 = 10) dX10_lay_1 ?_
  refine lv_if_eq (tgt := 8) hx hb dX10_lay_4 (by decide) (fun c1 => ?_) (fun c1 => ?_)
  · rw [if_pos c1] at h
    refine lv_iconst (v := 5) hx hb dX10_lay_8 (by decide) ?_
    refine lv_aload_n hx hb dX10_lay_9 rfl (lv_at hl 0 rfl) ?_
    refine gX10_250 C hd (rfl : kd 142 = 10) dX10_lay_10 ?_
    refine lv_if_eq (tgt := 20) hx hb dX10_lay_13 (by decide) (fun c2 => ?_) (fun c2 => ?_)
    · rw [if_pos c2] at h
      refine lv_iconst (v := 3) hx hb dX10_lay_20 (by decide) ?_
      exact sBX10_lay_21 C hr  hd (lv_sub hl [0, 1] rfl) h
    · rw [if_neg c2] at h
      refine lv_iconst (v := 4) hx hb dX10_lay_16 (by decide) ?_
      refine lv_goto (tgt := 21) hx hb dX10_lay_17 (by decide) ?_
      exact sBX10_lay_21 C hr  hd (lv_sub hl [0, 1] rfl) h
  · rw [if_neg c1] at h
    exact R_vret C hr hd h dX10_lay_7
set_option maxRecDepth 20000 in
theorem ccX10_lay (l : Launch) (G : Gt) {a1 : Int32} {S : St} {res : St}  (h : fX10_lay a1 S = some res) : Met l yX10_lay (wm yX10_lay cX10_lay 4 (none)) (rmL 3 0 0) (PcW G S [.ref (gR G 142), .int a1]) (QV G res) 0 0 (Ab G) := by
  refine Met.ofW (cc := cX10_lay) (maxL := 4) (ret := none) (by decide) rfl ?_
  intro p e s m args below meth c s₁ B hml hv
  obtain ⟨rfl, hK, hP⟩ := hv
  have C : Cx p s m _ meth c cX10_lay 4 RX10 G := ⟨⟨B.exec, B.bytes, hml, findClass_of_methodNamed B.named, fun w hw => atoms_spec (ws := wm yX10_lay cX10_lay 4 (none)) B.pre w (List.mem_cons_of_mem _ hw)⟩, B.notSynchronized, hK⟩
  have hl := lv_entry ([.ref (gR G 142), .int a1]) (n := 4) (Nat.le_of_ble_eq_true rfl)
  rw [lg_entry_eq]
  generalize (lg_sl ([.ref (gR G 142), .int a1]) ++ List.replicate (4 - (lg_sl ([.ref (gR G 142), .int a1])).length) Slot.unset).toArray = ls at hl ⊢
  exact sfX10_lay C B.returns  ⟨hP, va_S.rf⟩ hl h
end T29
