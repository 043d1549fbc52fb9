section T31
variable {p : Program} {l : Launch} {e : Env} {s : State} {m : MethodId} {args : Array Value} {below : List Frame} {meth : Method} {c : Code} {G : Gt}
def fX10_thrown  (S : St) : Option (Int32 × St) :=
  ri (S 142 3) S
set_option maxHeartbeats 4000000 in
set_option maxRecDepth 20000 in
theorem sfX10_thrown (C : Cx p s m args meth c cX10_thrown 1 RX10 G) (hr : meth.sig.returnType = some .int)  {S : St} {res : (Int32 × St)} {H : Heap} {locs : List Loc} {ls : Array Slot}  (hd : Dy G S s H locs) (hl : lv_has ls 1 [(0, .ref (gR G 142))]) (h : fX10_thrown  S = some res) : W p l e (rmL 3 0 0) s m args below meth c H locs 0 0 (MQ below (QI G res.1 res.2) args s 0 0 (Ab G)) (F0 m 0 ls []) := by
  unfold fX10_thrown at h
  have hx := C.1.1
  have hb := C.1.2.1
  refine lv_aload_n hx hb dX10_thrown_0 rfl (lv_at hl 0 rfl) ?_
  refine gX10_167 C hd (rfl : kd 142 = 10) dX10_thrown_1 ?_
  exact R_iret C hr hd h dX10_thrown_4
set_option maxRecDepth 20000 in
theorem ccX10_thrown (l : Launch) (G : Gt)  {S : St} {res : (Int32 × St)}  (h : fX10_thrown  S = some res) : Met l yX10_thrown (wm yX10_thrown cX10_thrown 1 (some .int)) (rmL 3 0 0) (PcW G S [.ref (gR G 142)]) (QI G res.1 res.2) 0 0 (Ab G) := by
  refine Met.ofW (cc := cX10_thrown) (maxL := 1) (ret := (some .int)) (by decide) rfl ?_
  intro p e s m args below meth c s₁ B hml hv
  obtain ⟨rfl, hK, hP⟩ := hv
  have C : Cx p s m _ meth c cX10_thrown 1 RX10 G := ⟨⟨B.exec, B.bytes, hml, findClass_of_methodNamed B.named, fun w hw => atoms_spec (ws := wm yX10_thrown cX10_thrown 1 (some .int)) B.pre w (List.mem_cons_of_mem _ hw)⟩, B.notSynchronized, hK⟩
  have hl := lv_entry ([.ref (gR G 142)]) (n := 1) (Nat.le_of_ble_eq_true rfl)
  rw [lg_entry_eq]
  generalize (lg_sl ([.ref (gR G 142)]) ++ List.replicate (1 - (lg_sl ([.ref (gR G 142)])).length) Slot.unset).toArray = ls at hl ⊢
  exact sfX10_thrown C B.returns  ⟨hP, va_S.rf⟩ hl h
def fX10_fail (a1 : Int32) (S : St) : Option (Int32 × St) :=
  pf S 142 3 a1 fun S => ri 0 S
set_option maxHeartbeats 4000000 in
set_option maxRecDepth 20000 in
theorem sfX10_fail (C : Cx p s m args meth c cX10_fail 2 RX10 G) (hr : meth.sig.returnType = some .int) {a1 : Int32} {S : St} {res : (Int32 × St)} {H : Heap} {locs : List Loc} {ls : Array Slot}  (hd : Dy G S s H locs) (hl : lv_has ls 2 [(0, .ref (gR G 142)), (1, .int a1)]) (h : fX10_fail a1 S = some res) : W p l e (rmL 3 0 0) s m args below meth c H locs 0 0 (MQ below (QI G res.1 res.2) args s 0 0 (Ab G)) (F0 m 0 ls []) := by
  unfold fX10_fail at h
  have hx := C.1.1
  have hb := C.1.2.1
  refine lv_aload_n hx hb dX10_fail_0 rfl (lv_at hl 0 rfl) ?_
  refine lv_iload_n hx hb dX10_fail_1 rfl (lv_at hl 1 rfl) ?_
  refine pX10_167 C hd (rfl : kd 142 = 10) h dX10_fail_2 (fun S H locs hd h => ?_)
  refine lv_iconst (v := 0) hx hb dX10_fail_5 (by decide) ?_
  exact R_iret C hr hd h dX10_fail_6
set_option maxRecDepth 20000 in
theorem ccX10_fail (l : Launch) (G : Gt) {a1 : Int32} {S : St} {res : (Int32 × St)}  (h : fX10_fail a1 S = some res) : Met l yX10_fail (wm yX10_fail cX10_fail 2 (some .int)) (rmL 3 0 0) (PcW G S [.ref (gR G 142), .int a1]) (QI G res.1 res.2) 0 0 (Ab G) := by
  refine Met.ofW (cc := cX10_fail) (maxL := 2) (ret := (some .int)) (by decide) rfl ?_
  intro p e s m args below meth c s₁ B hml hv
  obtain ⟨rfl, hK, hP⟩ := hv
  have C : Cx p s m _ meth c cX10_fail 2 RX10 G := ⟨⟨B.exec, B.bytes, hml, findClass_of_methodNamed B.named, fun w hw => atoms_spec (ws := wm yX10_fail cX10_fail 2 (some .int)) B.pre w (List.mem_cons_of_mem _ hw)⟩, B.notSynchronized, hK⟩
  have hl := lv_entry ([.ref (gR G 142), .int a1]) (n := 2) (Nat.le_of_ble_eq_true rfl)
  rw [lg_entry_eq]
  generalize (lg_sl ([.ref (gR G 142), .int a1]) ++ List.replicate (2 - (lg_sl ([.ref (gR G 142), .int a1])).length) Slot.unset).toArray = ls at hl ⊢
  exact sfX10_fail C B.returns  ⟨hP, va_S.rf⟩ hl h
def fX10_failing (a1 : Int32) (S : St) : Option (Int32 × St) :=
  pf S 142 3 a1 fun S => rz 0 S
set_option maxHeartbeats 4000000 in
set_option maxRecDepth 20000 in
theorem sfX10_failing (C : Cx p s m args meth c cX10_failing 2 RX10 G) (hr : meth.sig.returnType = some .boolean) {a1 : Int32} {S : St} {res : (Int32 × St)} {H : Heap} {locs : List Loc} {ls : Array Slot}  (hd : Dy G S s H locs) (hl : lv_has ls 2 [(0, .ref (gR G 142)), (1, .int a1)]) (h : fX10_failing a1 S = some res) : W p l e (rmL 3 0 0) s m args below meth c H locs 0 0 (MQ below (QI G res.1 res.2) args s 0 0 (Ab G)) (F0 m 0 ls []) := by
  unfold fX10_failing at h
  have hx := C.1.1
  have hb := C.1.2.1
  refine lv_aload_n hx hb dX10_failing_0 rfl (lv_at hl 0 rfl) ?_
  refine lv_iload_n hx hb dX10_failing_1 rfl (lv_at hl 1 rfl) ?_
  refine pX10_167 C hd (rfl : kd 142 = 10) h dX10_failing_2 (fun S H locs hd h => ?_)
  refine lv_iconst (v := 0) hx hb dX10_failing_5 (by decide) ?_
  exact R_zret C hr hd h dX10_failing_6
set_option maxRecDepth 20000 in
theorem ccX10_failing (l : Launch) (G : Gt) {a1 : Int32} {S : St} {res : (Int32 × St)}  (h : fX10_failing a1 S = some res) : Met l yX10_failing (wm yX10_failing cX10_failing 2 (some .boolean)) (rmL 3 0 0) (PcW G S [.ref (gR G 142), .int a1]) (QI G res.1 res.2) 0 0 (Ab G) := by
  refine Met.ofW (cc := cX10_failing) (maxL := 2) (ret := (some .boolean)) (by decide) rfl ?_
  intro p e s m args below meth c s₁ B hml hv
  obtain ⟨rfl, hK, hP⟩ := hv
  have C : Cx p s m _ meth c cX10_failing 2 RX10 G := ⟨⟨B.exec, B.bytes, hml, findClass_of_methodNamed B.named, fun w hw => atoms_spec (ws := wm yX10_failing cX10_failing 2 (some .boolean)) B.pre w (List.mem_cons_of_mem _ hw)⟩, B.notSynchronized, hK⟩
  have hl := lv_entry ([.ref (gR G 142), .int a1]) (n := 2) (Nat.le_of_ble_eq_true rfl)
  rw [lg_entry_eq]
  generalize (lg_sl ([.ref (gR G 142), .int a1]) ++ List.replicate (2 - (lg_sl ([.ref (gR G 142), .int a1])).length) Slot.unset).toArray = ls at hl ⊢
  exact sfX10_failing C B.returns  ⟨hP, va_S.rf⟩ hl h
def fX10_isIn (a0 : Int64) (a2 : Int64) (a4 : Int64) (S : St) : Option (Int32 × St) :=
  (if (lg_cmp a0 a2) < 0 then rz 0 S else (if 0 < (lg_cmp a0 a4) then rz 0 S else rz 1 S))
set_option maxHeartbeats 4000000 in
set_option maxRecDepth 20000 in
theorem sfX10_isIn (C : Cx p s m args meth c cX10_isIn 6 RX10 G) (hr : meth.sig.returnType = some .boolean) {a0 : Int64} {a2 : Int64} {a4 : Int64} {S : St} {res : (Int32 × St)} {H : Heap} {locs : List Loc} {ls : Array Slot}  (hd : Dy G S s H locs) (hl : lv_has ls 6 [(0, .long a0), (2, .long a2), (4, .long a4)]) (h : fX10_isIn a0 a2 a4 S = some res) : W p l e (rmL 3 0 0) s m args below meth c H locs 0 0 (MQ below (QI G res.1 res.2) args s 0 0 (Ab G)) (F0 m 0 ls []) := by
  unfold fX10_isIn at h
  have hx := C.1.1
  have hb := C.1.2.1
  refine lv_lload_n hx hb dX10_isIn_0 rfl (lv_at hl 0 rfl) ?_
  refine lv_lload_n hx hb dX10_isIn_1 rfl (lv_at hl 1 rfl) ?_
  refine W.lcmp hx hb dX10_isIn_2 ?_
  refine lv_if_lt (tgt := 17) hx hb dX10_isIn_3 (by decide) (fun c1 => ?_) (fun c1 => ?_)
  · rw [if_pos c1] at h
    refine lv_iconst (v := 0) hx hb dX10_isIn_17 (by decide) ?_
    exact R_zret C hr hd h dX10_isIn_18
  · rw [if_neg c1] at h
    refine lv_lload_n hx hb dX10_isIn_6 rfl (lv_at hl 0 rfl) ?_
    refine lv_lload hx hb dX10_isIn_7 (lv_at hl 2 rfl) ?_
    refine W.lcmp hx hb dX10_isIn_9 ?_
    refine lv_if_gt (tgt := 17) hx hb dX10_isIn_10 (by decide) (fun c2 => ?_) (fun c2 => ?_)
    · rw [if_pos c2] at h
      refine lv_iconst (v := 0) hx hb dX10_isIn_17 (by decide) ?_
      exact R_zret C hr hd h dX10_isIn_18
    · rw [if_neg c2] at h
      refine lv_iconst (v := 1) hx hb dX10_isIn_13 (by decide) ?_
      refine lv_goto (tgt := 18) hx hb dX10_isIn_14 (by decide) ?_
      exact R_zret C hr hd h dX10_isIn_18
set_option maxRecDepth 20000 in
theorem ccX10_isIn (l : Launch) (G : Gt) {a0 : Int64} {a2 : Int64} {a4 : Int64} {S : St} {res : (Int32 × St)}  (h : fX10_isIn a0 a2 a4 S = some res) : Met l yX10_isIn (wm yX10_isIn cX10_isIn 6 (some .boolean)) (rmL 3 0 0) (PcW G S [.long a0, .long a2, .long a4]) (QI G res.1 res.2) 0 0 (Ab G) := by
  refine Met.ofW (cc := cX10_isIn) (maxL := 6) (ret := (some .boolean)) (by decide) rfl ?_
  intro p e s m args below meth c s₁ B hml hv
  obtain ⟨rfl, hK, hP⟩ := hv
  have C : Cx p s m _ meth c cX10_isIn 6 RX10 G := ⟨⟨B.exec, B.bytes, hml, findClass_of_methodNamed B.named, fun w hw => atoms_spec (ws := wm yX10_isIn cX10_isIn 6 (some .boolean)) B.pre w (List.mem_cons_of_mem _ hw)⟩, B.notSynchronized, hK⟩
  have hl := lv_entry ([.long a0, .long a2, .long a4]) (n := 6) (Nat.le_of_ble_eq_true rfl)
  rw [lg_entry_eq]
  generalize (lg_sl ([.long a0, .long a2, .long a4]) ++ List.replicate (6 - (lg_sl ([.long a0, .long a2, .long a4])).length) Slot.unset).toArray = ls at hl ⊢
  exact sfX10_isIn C B.returns  ⟨hP, va_S.rf⟩ hl h
def fX10_isOf (a0 : Int32) (a1 : Int32) (S : St) : Option (Int32 × St) :=
  (if ((a0 >>> (a1 &&& 31)) &&& 1) = 1 then rz 1 S else rz 0 S)
set_option maxHeartbeats 4000000 in
set_option maxRecDepth 20000 in
theorem sfX10_isOf (C : Cx p s m args meth c cX10_isOf 2 RX10 G) (hr : meth.sig.returnType = some .boolean) {a0 : Int32} {a1 : Int32} {S : St} {res : (Int32 × St)} {H : Heap} {locs : List Loc} {ls : Array Slot}  (hd : Dy G S s H locs) (hl : lv_has ls 2 [(0, .int a0), (1, .int a1)]) (h : fX10_isOf a0 a1 S = some res) : W p l e (rmL 3 0 0) s m args below meth c H locs 0 0 (MQ below (QI G res.1 res.2) args s 0 0 (Ab G)) (F0 m 0 ls []) := by
  unfold fX10_isOf at h
  have hx := C.1.1
  have hb := C.1.2.1
  refine lv_iload_n hx hb dX10_isOf_0 rfl (lv_at hl 0 rfl) ?_
  refine lv_iload_n hx hb dX10_isOf_1 rfl (lv_at hl 1 rfl) ?_
  refine lv_ishr hx hb dX10_isOf_2 ?_
  refine lv_iconst (v := 1) hx hb dX10_isOf_3 (by decide) ?_
  refine lv_iand hx hb dX10_isOf_4 ?_
  refine lv_iconst (v := 1) hx hb dX10_isOf_5 (by decide) ?_
  refine lv_icmp_ne (tgt := 13) hx hb dX10_isOf_6 (by decide) (fun c1 => ?_) (fun c1 => ?_)
  · rw [if_neg c1] at h
    refine lv_iconst (v := 0) hx hb dX10_isOf_13 (by decide) ?_
    exact R_zret C hr hd h dX10_isOf_14
  · rw [if_pos c1] at h
    refine lv_iconst (v := 1) hx hb dX10_isOf_9 (by decide) ?_
    refine lv_goto (tgt := 14) hx hb dX10_isOf_10 (by decide) ?_
    exact R_zret C hr hd h dX10_isOf_14
set_option maxRecDepth 20000 in
theorem ccX10_isOf (l : Launch) (G : Gt) {a0 : Int32} {a1 : Int32} {S : St} {res : (Int32 × St)}  (h : fX10_isOf a0 a1 S = some res) : Met l yX10_isOf (wm yX10_isOf cX10_isOf 2 (some .boolean)) (rmL 3 0 0) (PcW G S [.int a0, .int a1]) (QI G res.1 res.2) 0 0 (Ab G) := by
  refine Met.ofW (cc := cX10_isOf) (maxL := 2) (ret := (some .boolean)) (by decide) rfl ?_
  intro p e s m args below meth c s₁ B hml hv
  obtain ⟨rfl, hK, hP⟩ := hv
  have C : Cx p s m _ meth c cX10_isOf 2 RX10 G := ⟨⟨B.exec, B.bytes, hml, findClass_of_methodNamed B.named, fun w hw => atoms_spec (ws := wm yX10_isOf cX10_isOf 2 (some .boolean)) B.pre w (List.mem_cons_of_mem _ hw)⟩, B.notSynchronized, hK⟩
  have hl := lv_entry ([.int a0, .int a1]) (n := 2) (Nat.le_of_ble_eq_true rfl)
  rw [lg_entry_eq]
  generalize (lg_sl ([.int a0, .int a1]) ++ List.replicate (2 - (lg_sl ([.int a0, .int a1])).length) Slot.unset).toArray = ls at hl ⊢
  exact sfX10_isOf C B.returns  ⟨hP, va_S.rf⟩ hl h
def KX10_bitsOf_4 (r4 : Int32 → Int32 → St → Option (Int32 × St)) (l1 : Int32) (l2 : Int32) (S : St) : Option (Int32 × St) :=
  (if l2 = 0 then ri l1 S else vl (l1 + 1) fun x2 => vl (l2 &&& (l2 - 1)) fun x3 => (r4 x2 x3 S))
set_option maxHeartbeats 4000000 in
set_option maxRecDepth 20000 in
theorem sKX10_bitsOf_4 (C : Cx p s m args meth c cX10_bitsOf 3 RX10 G) (hr : meth.sig.returnType = some .int) {r4 : Int32 → Int32 → St → Option (Int32 × St)} (hr4 : ∀ (l1 : Int32) (l2 : Int32) (S : St) (res : (Int32 × St)) (H : Heap) (locs : List Loc) (ls : Array Slot), Dy G S s H locs → lv_has ls 3 [(1, .int l1), (2, .int l2)] → r4 l1 l2 S = some res → W p l e (rmL 3 0 0) s m args below meth c H locs 0 0 (MQ below (QI G res.1 res.2) args s 0 0 (Ab G)) (F0 m 4 ls [])) {l1 : Int32} {l2 : Int32} {S : St} {res : (Int32 × St)} {H : Heap} {locs : List Loc} {ls : Array Slot}  (hd : Dy G S s H locs) (hl : lv_has ls 3 [(1, .int l1), (2, .int l2)]) (h : KX10_bitsOf_4 r4 l1 l2 S = some res) : W p l e (rmL 3 0 0) s m args below meth c H locs 0 0 (MQ below (QI G res.1 res.2) args s 0 0 (Ab G)) (F0 m 4 ls []) := by
  unfold KX10_bitsOf_4 at h
  have hx := C.1.1
  have hb := C.1.2.1
  refine lv_iload_n hx hb dX10_bitsOf_4 rfl (lv_at hl 1 rfl) ?_
  refine lv_if_eq (tgt := 20) hx hb dX10_bitsOf_5 (by decide) (fun c1 => ?_) (fun c1 => ?_)
  · rw [if_pos c1] at h
    refine lv_iload_n hx hb dX10_bitsOf_20 rfl (lv_at hl 0 rfl) ?_
    exact R_iret C hr hd h dX10_bitsOf_21
  · rw [if_neg c1] at h
    refine R_vi h (fun x2 ex2 h => ?_)
    refine lv_iinc (v := x2) (lv' := [(1, .int x2), (2, .int l2)]) hx hb dX10_bitsOf_8 hl (k := 0) rfl (by rw [ex2]; rfl) (by decide) rfl (fun ls hl => ?_)
    refine lv_iload_n hx hb dX10_bitsOf_11 rfl (lv_at hl 1 rfl) ?_
    refine lv_iload_n hx hb dX10_bitsOf_12 rfl (lv_at hl 1 rfl) ?_
    refine lv_iconst (v := 1) hx hb dX10_bitsOf_13 (by decide) ?_
    refine lv_isub hx hb dX10_bitsOf_14 ?_
    refine lv_iand hx hb dX10_bitsOf_15 ?_
    refine R_vl h (fun x3 h => ?_)
    refine lv_istore_n (lv' := [(2, .int x3), (1, .int x2)]) hx hb dX10_bitsOf_16 rfl hl (by decide) rfl (fun ls hl => ?_)
    refine lv_goto (tgt := 4) hx hb dX10_bitsOf_17 (by decide) ?_
    exact hr4 x2 x3 _ _ _ _ _  hd (lv_sub hl [1, 0] rfl) h
def LX10_bitsOf_4 : Nat → Int32 → Int32 → St → Option (Int32 × St)
  | 0 => fun _ _ _ => none
  | n + 1 => fun l1 l2 S => KX10_bitsOf_4 (LX10_bitsOf_4 n) l1 l2 S
theorem sLX10_bitsOf_4 (C : Cx p s m args meth c cX10_bitsOf 3 RX10 G) (hr : meth.sig.returnType = some .int) : ∀ (n : Nat) (l1 : Int32) (l2 : Int32) (S : St) (res : (Int32 × St)) (H : Heap) (locs : List Loc) (ls : Array Slot), Dy G S s H locs → lv_has ls 3 [(1, .int l1), (2, .int l2)] → LX10_bitsOf_4 n l1 l2 S = some res → W p l e (rmL 3 0 0) s m args below meth c H locs 0 0 (MQ below (QI G res.1 res.2) args s 0 0 (Ab G)) (F0 m 4 ls []) := by
  intro n
  induction n with
  | zero => intro l1 l2 S res H locs ls  hd hl h; cases h
  | succ n ih =>
    intro l1 l2 S res H locs ls  hd hl h
    exact sKX10_bitsOf_4 C hr ih  hd hl h
def fX10_bitsOf (a0 : Int32) (S : St) : Option (Int32 × St) :=
  (LX10_bitsOf_4 FU 0 a0 S)
set_option maxHeartbeats 4000000 in
set_option maxRecDepth 20000 in
theorem sfX10_bitsOf (C : Cx p s m args meth c cX10_bitsOf 3 RX10 G) (hr : meth.sig.returnType = some .int) {a0 : Int32} {S : St} {res : (Int32 × St)} {H : Heap} {locs : List Loc} {ls : Array Slot}  (hd : Dy G S s H locs) (hl : lv_has ls 3 [(0, .int a0)]) (h : fX10_bitsOf a0 S = some res) : W p l e (rmL 3 0 0) s m args below meth c H locs 0 0 (MQ below (QI G res.1 res.2) args s 0 0 (Ab G)) (F0 m 0 ls []) := by
  unfold fX10_bitsOf at h
  have hx := C.1.1
  have hb := C.1.2.1
  refine lv_iconst (v := 0) hx hb dX10_bitsOf_0 (by decide) ?_
  refine lv_istore_n (lv' := [(1, .int 0), (0, .int a0)]) hx hb dX10_bitsOf_1 rfl hl (by decide) rfl (fun ls hl => ?_)
  refine lv_iload_n hx hb dX10_bitsOf_2 rfl (lv_at hl 1 rfl) ?_
  refine lv_istore_n (lv' := [(2, .int a0), (1, .int 0), (0, .int a0)]) hx hb dX10_bitsOf_3 rfl hl (by decide) rfl (fun ls hl => ?_)
  exact sLX10_bitsOf_4 C hr _ 0 a0 _ _ _ _ _  hd (lv_sub hl [1, 0] rfl) h
set_option maxRecDepth 20000 in
theorem ccX10_bitsOf (l : Launch) (G : Gt) {a0 : Int32} {S : St} {res : (Int32 × St)}  (h : fX10_bitsOf a0 S = some res) : Met l yX10_bitsOf (wm yX10_bitsOf cX10_bitsOf 3 (some .int)) (rmL 3 0 0) (PcW G S [.int a0]) (QI G res.1 res.2) 0 0 (Ab G) := by
  refine Met.ofW (cc := cX10_bitsOf) (maxL := 3) (ret := (some .int)) (by decide) rfl ?_
  intro p e s m args below meth c s₁ B hml hv
  obtain ⟨rfl, hK, hP⟩ := hv
  have C : Cx p s m _ meth c cX10_bitsOf 3 RX10 G := ⟨⟨B.exec, B.bytes, hml, findClass_of_methodNamed B.named, fun w hw => atoms_spec (ws := wm yX10_bitsOf cX10_bitsOf 3 (some .int)) B.pre w (List.mem_cons_of_mem _ hw)⟩, B.notSynchronized, hK⟩
  have hl := lv_entry ([.int a0]) (n := 3) (Nat.le_of_ble_eq_true rfl)
  rw [lg_entry_eq]
  generalize (lg_sl ([.int a0]) ++ List.replicate (3 - (lg_sl ([.int a0])).length) Slot.unset).toArray = ls at hl ⊢
  exact sfX10_bitsOf C B.returns  ⟨hP, va_S.rf⟩ hl h
def fX10_isField (a1 : Int32) (S : St) : Option (Int32 × St) :=
  rd S 145 0 fun x2 => bd (fX10_isIn (a1.toInt64) 0 ((x2 - 1).toInt64) S) fun x3 S => rz x3 S
set_option maxHeartbeats 4000000 in
set_option maxRecDepth 20000 in
theorem sfX10_isField (C : Cx p s m args meth c cX10_isField 2 RX10 G) (hr : meth.sig.returnType = some .boolean) {a1 : Int32} {S : St} {res : (Int32 × St)} {H : Heap} {locs : List Loc} {ls : Array Slot}  (hd : Dy G S s H locs) (hl : lv_has ls 2 [(0, .ref (gR G 142)), (1, .int a1)]) (h : fX10_isField a1 S = some res) : W p l e (rmL 4 0 0) s m args below meth c H locs 0 0 (MQ below (QI G res.1 res.2) args s 0 0 (Ab G)) (F0 m 0 ls []) := by
  unfold fX10_isField at h
  have hx := C.1.1
  have hb := C.1.2.1
  refine lv_iload_n hx hb dX10_isField_0 rfl (lv_at hl 1 rfl) ?_
  refine lv_i2l hx hb dX10_isField_1 rfl ?_
  refine lv_lconst (v := 0) hx hb dX10_isField_2 rfl ?_
  refine lv_aload_n hx hb dX10_isField_3 rfl (lv_at hl 0 rfl) ?_
  refine gX10_39 C hd (rfl : kd 142 = 10) (q := 145) rfl dX10_isField_4 (fun y1 => ?_)
  refine lv_iconst (v := 0) hx hb dX10_isField_7 (by decide) ?_
  refine R_iald C hd y1 h dX10_isField_8 (fun x2 h => ?_)
  refine lv_iconst (v := 1) hx hb dX10_isField_9 (by decide) ?_
  refine lv_isub hx hb dX10_isField_10 ?_
  refine lv_i2l hx hb dX10_isField_11 rfl ?_
  obtain ⟨x3, S1, hc, h⟩ := bd_some h
  refine R_cSi C hd (ccX10_isIn l G  hc) kX10_170  hl.1 ⟨by decide, by decide⟩ rfl rfl (Nat.le_of_ble_eq_true rfl) dX10_isField_12 ⟨Nat.zero_le _, Nat.zero_le _⟩ (fun H locs hd => ?_)
  generalize S1 = S at h hd
  exact R_zret C hr hd h dX10_isField_15
set_option maxRecDepth 20000 in
theorem ccX10_isField (l : Launch) (G : Gt) {a1 : Int32} {S : St} {res : (Int32 × St)}  (h : fX10_isField a1 S = some res) : Met l yX10_isField (wm yX10_isField cX10_isField 2 (some .boolean)) (rmL 4 0 0) (PcW G S [.ref (gR G 142), .int a1]) (QI G res.1 res.2) 0 0 (Ab G) := by
  refine Met.ofW (cc := cX10_isField) (maxL := 2) (ret := (some .boolean)) (by decide) rfl ?_
  intro p e s m args below meth c s₁ B hml hv
  obtain ⟨rfl, hK, hP⟩ := hv
  have C : Cx p s m _ meth c cX10_isField 2 RX10 G := ⟨⟨B.exec, B.bytes, hml, findClass_of_methodNamed B.named, fun w hw => atoms_spec (ws := wm yX10_isField cX10_isField 2 (some .boolean)) B.pre w (List.mem_cons_of_mem _ hw)⟩, B.notSynchronized, hK⟩
  have hl := lv_entry ([.ref (gR G 142), .int a1]) (n := 2) (Nat.le_of_ble_eq_true rfl)
  rw [lg_entry_eq]
  generalize (lg_sl ([.ref (gR G 142), .int a1]) ++ List.replicate (2 - (lg_sl ([.ref (gR G 142), .int a1])).length) Slot.unset).toArray = ls at hl ⊢
  exact sfX10_isField C B.returns  ⟨hP, va_S.rf⟩ hl h
def fX10_isSinger (a1 : Int32) (S : St) : Option (Int32 × St) :=
  rd S 145 2 fun x2 => bd (fX10_isIn (a1.toInt64) 0 ((x2 - 1).toInt64) S) fun x3 S => rz x3 S
set_option maxHeartbeats 4000000 in
set_option maxRecDepth 20000 in
theorem sfX10_isSinger (C : Cx p s m args meth c cX10_isSinger 2 RX10 G) (hr : meth.sig.returnType = some .boolean) {a1 : Int32} {S : St} {res : (Int32 × St)} {H : Heap} {locs : List Loc} {ls : Array Slot}  (hd : Dy G S s H locs) (hl : lv_has ls 2 [(0, .ref (gR G 142)), (1, .int a1)]) (h : fX10_isSinger a1 S = some res) : W p l e (rmL 4 0 0) s m args below meth c H locs 0 0 (MQ below (QI G res.1 res.2) args s 0 0 (Ab G)) (F0 m 0 ls []) := by
  unfold fX10_isSinger at h
  have hx := C.1.1
  have hb := C.1.2.1
  refine lv_iload_n hx hb dX10_isSinger_0 rfl (lv_at hl 1 rfl) ?_
  refine lv_i2l hx hb dX10_isSinger_1 rfl ?_
  refine lv_lconst (v := 0) hx hb dX10_isSinger_2 rfl ?_
  refine lv_aload_n hx hb dX10_isSinger_3 rfl (lv_at hl 0 rfl) ?_
  refine gX10_39 C hd (rfl : kd 142 = 10) (q := 145) rfl dX10_isSinger_4 (fun y1 => ?_)
  refine lv_iconst (v := 2) hx hb dX10_isSinger_7 (by decide) ?_
  refine R_iald C hd y1 h dX10_isSinger_8 (fun x2 h => ?_)
  refine lv_iconst (v := 1) hx hb dX10_isSinger_9 (by decide) ?_
  refine lv_isub hx hb dX10_isSinger_10 ?_
  refine lv_i2l hx hb dX10_isSinger_11 rfl ?_
  obtain ⟨x3, S1, hc, h⟩ := bd_some h
  refine R_cSi C hd (ccX10_isIn l G  hc) kX10_170  hl.1 ⟨by decide, by decide⟩ rfl rfl (Nat.le_of_ble_eq_true rfl) dX10_isSinger_12 ⟨Nat.zero_le _, Nat.zero_le _⟩ (fun H locs hd => ?_)
  generalize S1 = S at h hd
  exact R_zret C hr hd h dX10_isSinger_15
set_option maxRecDepth 20000 in
theorem ccX10_isSinger (l : Launch) (G : Gt) {a1 : Int32} {S : St} {res : (Int32 × St)}  (h : fX10_isSinger a1 S = some res) : Met l yX10_isSinger (wm yX10_isSinger cX10_isSinger 2 (some .boolean)) (rmL 4 0 0) (PcW G S [.ref (gR G 142), .int a1]) (QI G res.1 res.2) 0 0 (Ab G) := by
  refine Met.ofW (cc := cX10_isSinger) (maxL := 2) (ret := (some .boolean)) (by decide) rfl ?_
  intro p e s m args below meth c s₁ B hml hv
  obtain ⟨rfl, hK, hP⟩ := hv
  have C : Cx p s m _ meth c cX10_isSinger 2 RX10 G := ⟨⟨B.exec, B.bytes, hml, findClass_of_methodNamed B.named, fun w hw => atoms_spec (ws := wm yX10_isSinger cX10_isSinger 2 (some .boolean)) B.pre w (List.mem_cons_of_mem _ hw)⟩, B.notSynchronized, hK⟩
  have hl := lv_entry ([.ref (gR G 142), .int a1]) (n := 2) (Nat.le_of_ble_eq_true rfl)
  rw [lg_entry_eq]
  generalize (lg_sl ([.ref (gR G 142), .int a1]) ++ List.replicate (2 - (lg_sl ([.ref (gR G 142), .int a1])).length) Slot.unset).toArray = ls at hl ⊢
  exact sfX10_isSinger C B.returns  ⟨hP, va_S.rf⟩ hl h
def BX10_feed_76 (r23 : Int32 → Int32 → Int32 → Int32 → Int32 → Int32 → St → Option (Int32 × St)) (l1 : Int32) (l2 : Int32) (l3 : Int32) (l4 : Int32) (l5 : Int32) (l6 : Int32) (s0 : Int32) (S : St) : Option (Int32 × St) :=
  rm' l6 4 fun x2 => wr S 157 (S 142 17) ((s0 >>> ((24 - (8 * x2)) &&& 31)) &&& 255) fun S => pf S 142 17 ((S 142 17) + 1) fun S => vl (l6 + 1) fun x3 => (r23 l1 l2 l3 l4 l5 x3 S)
set_option maxHeartbeats 4000000 in
set_option maxRecDepth 20000 in
theorem sBX10_feed_76 (C : Cx p s m args meth c cX10_feed 8 RX10 G) (hr : meth.sig.returnType = some .int) {r23 : Int32 → Int32 → Int32 → Int32 → Int32 → Int32 → St → Option (Int32 × St)} (hr23 : ∀ (l1 : Int32) (l2 : Int32) (l3 : Int32) (l4 : Int32) (l5 : Int32) (l6 : Int32) (S : St) (res : (Int32 × St)) (H : Heap) (locs : List Loc) (ls : Array Slot), Dy G S s H locs → lv_has ls 8 [(0, .ref (gR G 142)), (1, .int l1), (2, .int l2), (3, .int l3), (4, .int l4), (5, .int l5), (6, .int l6)] → r23 l1 l2 l3 l4 l5 l6 S = some res → W p l e (rmL 3 0 0) s m args below meth c H locs 0 0 (MQ below (QI G res.1 res.2) args s 0 0 (Ab G)) (F0 m 23 ls [])) {l1 : Int32} {l2 : Int32} {l3 : Int32} {l4 : Int32} {l5 : Int32} {l6 : Int32} {s0 : Int32} {S : St} {res : (Int32 × St)} {H : Heap} {locs : List Loc} {ls : Array Slot}  (hd : Dy G S s H locs) (hl : lv_has ls 8 [(0, .ref (gR G 142)), (1, .int l1), (2, .int l2), (3, .int l3), (4, .int l4), (5, .int l5), (6, .int l6)]) (h : BX10_feed_76 r23 l1 l2 l3 l4 l5 l6 s0 S = some res) : W p l e (rmL 3 0 0) s m args below meth c H locs 0 0 (MQ below (QI G res.1 res.2) args s 0 0 (Ab G)) (F0 m 76 ls [.int s0]) := by
  unfold BX10_feed_76 at h
  have hx := C.1.1
  have hb := C.1.2.1
  refine lv_istore (lv' := [(7, .int s0), (0, .ref (gR G 142)), (1, .int l1), (2, .int l2), (3, .int l3), (4, .int l4), (5, .int l5), (6, .int l6)]) hx hb dX10_feed_76 hl (by decide) rfl (fun ls hl => ?_)
  refine lv_aload_n hx hb dX10_feed_78 rfl (lv_at hl 1 rfl) ?_
  refine gX10_74 C hd (rfl : kd 142 = 10) (q := 157) rfl dX10_feed_79 (fun y1 => ?_)
  refine lv_aload_n hx hb dX10_feed_82 rfl (lv_at hl 1 rfl) ?_
  refine gX10_174 C hd (rfl : kd 142 = 10) dX10_feed_83 ?_
  refine lv_iload hx hb dX10_feed_86 (lv_at hl 0 rfl) ?_
  refine lv_bipush (v := 24) hx hb dX10_feed_88 (by decide) ?_
  refine lv_bipush (v := 8) hx hb dX10_feed_90 (by decide) ?_
  refine lv_iload hx hb dX10_feed_92 (lv_at hl 7 rfl) ?_
  refine lv_iconst (v := 4) hx hb dX10_feed_94 (by decide) ?_
  refine R_rem C h dX10_feed_95 (fun x2 h => ?_)
  refine lv_imul hx hb dX10_feed_96 ?_
  refine lv_isub hx hb dX10_feed_97 ?_
  refine lv_ishr hx hb dX10_feed_98 ?_
  refine lv_sipush (v := 255) hx hb dX10_feed_99 (by decide) ?_
  refine lv_iand hx hb dX10_feed_102 ?_
  refine R_iast C hd y1 h dX10_feed_103 (fun S H locs hd h => ?_)
  refine lv_aload_n hx hb dX10_feed_104 rfl (lv_at hl 1 rfl) ?_
  refine lv_dup hx hb dX10_feed_105 rfl ?_
  refine gX10_174 C hd (rfl : kd 142 = 10) dX10_feed_106 ?_
  refine lv_iconst (v := 1) hx hb dX10_feed_109 (by decide) ?_
  refine lv_iadd hx hb dX10_feed_110 ?_
  refine pX10_174 C hd (rfl : kd 142 = 10) h dX10_feed_111 (fun S H locs hd h => ?_)
  refine R_vi h (fun x3 ex3 h => ?_)
  refine lv_iinc (v := x3) (lv' := [(6, .int x3), (7, .int s0), (0, .ref (gR G 142)), (1, .int l1), (2, .int l2), (3, .int l3), (4, .int l4), (5, .int l5)]) hx hb dX10_feed_114 hl (k := 7) rfl (by rw [ex3]; rfl) (by decide) rfl (fun ls hl => ?_)
  refine lv_goto (tgt := 23) hx hb dX10_feed_117 (by decide) ?_
  exact hr23 l1 l2 l3 l4 l5 x3 _ _ _ _ _  hd (lv_sub hl [2, 3, 4, 5, 6, 7, 0] rfl) h
def KX10_feed_23 (r23 : Int32 → Int32 → Int32 → Int32 → Int32 → Int32 → St → Option (Int32 × St)) (l1 : Int32) (l2 : Int32) (l3 : Int32) (l4 : Int32) (l5 : Int32) (l6 : Int32) (S : St) : Option (Int32 × St) :=
  (if 20 ≤ l6 then ri (S 142 17) S else (if 4 ≤ l6 then (if 8 ≤ l6 then (if 12 ≤ l6 then (if 16 ≤ l6 then (BX10_feed_76 r23 l1 l2 l3 l4 l5 l6 l5 S) else (BX10_feed_76 r23 l1 l2 l3 l4 l5 l6 l4 S)) else (BX10_feed_76 r23 l1 l2 l3 l4 l5 l6 l3 S)) else (BX10_feed_76 r23 l1 l2 l3 l4 l5 l6 l2 S)) else (BX10_feed_76 r23 l1 l2 l3 l4 l5 l6 l1 S)))
set_option maxHeartbeats 4000000 in
set_option maxRecDepth 20000 in
theorem sKX10_feed_23 (C : Cx p s m args meth c cX10_feed 8 RX10 G) (hr : meth.sig.returnType = some .int) {r23 : Int32 → Int32 → Int32 → Int32 → Int32 → Int32 → St → Option (Int32 × St)} (hr23 : ∀ (l1 : Int32) (l2 : Int32) (l3 : Int32) (l4 : Int32) (l5 : Int32) (l6 : Int32) (S : St) (res : (Int32 × St)) (H : Heap) (locs : List Loc) (ls : Array Slot), Dy G S s H locs → lv_has ls 8 [(0, .ref (gR G 142)), (1, .int l1), (2, .int l2), (3, .int l3), (4, .int l4), (5, .int l5), (6, .int l6)] → r23 l1 l2 l3 l4 l5 l6 S = some res → W p l e (rmL 3 0 0) s m args below meth c H locs 0 0 (MQ below (QI G res.1 res.2) args s 0 0 (Ab G)) (F0 m 23 ls [])) {l1 : Int32} {l2 : Int32} {l3 : Int32} {l4 : Int32} {l5 : Int32} {l6 : Int32} {S : St} {res : (Int32 × St)} {H : Heap} {locs : List Loc} {ls : Array Slot}  (hd : Dy G S s H locs) (hl : lv_has ls 8 [(0, .ref (gR G 142)), (1, .int l1), (2, .int l2), (3, .int l3), (4, .int l4), (5, .int l5), (6, .int l6)]) (h : KX10_feed_23 r23 l1 l2 l3 l4 l5 l6 S = some res) : W p l e (rmL 3 0 0) s m args below meth c H locs 0 0 (MQ below (QI G res.1 res.2) args s 0 0 (Ab G)) (F0 m 23 ls []) := by
  unfold KX10_feed_23 at h
  have hx := C.1.1
  have hb := C.1.2.1
  refine lv_iload hx hb dX10_feed_23 (lv_at hl 6 rfl) ?_
  refine lv_bipush (v := 20) hx hb dX10_feed_25 (by decide) ?_
  refine lv_icmp_ge (tgt := 120) hx hb dX10_feed_27 (by decide) (fun c1 => ?_) (fun c1 => ?_)
  · rw [if_pos c1] at h
    refine lv_aload_n hx hb dX10_feed_120 rfl (lv_at hl 0 rfl) ?_
    refine gX10_174 C hd (rfl : kd 142 = 10) dX10_feed_121 ?_
    exact R_iret C hr hd h dX10_feed_124
  · rw [if_neg c1] at h
    refine lv_iload hx hb dX10_feed_30 (lv_at hl 6 rfl) ?_
    refine lv_iconst (v := 4) hx hb dX10_feed_32 (by decide) ?_
    refine lv_icmp_ge (tgt := 40) hx hb dX10_feed_33 (by decide) (fun c2 => ?_) (fun c2 => ?_)
    · rw [if_pos c2] at h
      refine lv_iload hx hb dX10_feed_40 (lv_at hl 6 rfl) ?_
      refine lv_bipush (v := 8) hx hb dX10_feed_42 (by decide) ?_
      refine lv_icmp_ge (tgt := 51) hx hb dX10_feed_44 (by decide) (fun c3 => ?_) (fun c3 => ?_)
      · rw [if_pos c3] at h
        refine lv_iload hx hb dX10_feed_51 (lv_at hl 6 rfl) ?_
        refine lv_bipush (v := 12) hx hb dX10_feed_53 (by decide) ?_
        refine lv_icmp_ge (tgt := 62) hx hb dX10_feed_55 (by decide) (fun c4 => ?_) (fun c4 => ?_)
        · rw [if_pos c4] at h
          refine lv_iload hx hb dX10_feed_62 (lv_at hl 6 rfl) ?_
          refine lv_bipush (v := 16) hx hb dX10_feed_64 (by decide) ?_
          refine lv_icmp_ge (tgt := 74) hx hb dX10_feed_66 (by decide) (fun c5 => ?_) (fun c5 => ?_)
          · rw [if_pos c5] at h
            refine lv_iload hx hb dX10_feed_74 (lv_at hl 5 rfl) ?_
            exact sBX10_feed_76 C hr hr23  hd (lv_sub hl [0, 1, 2, 3, 4, 5, 6] rfl) h
          · rw [if_neg c5] at h
            refine lv_iload hx hb dX10_feed_69 (lv_at hl 4 rfl) ?_
            refine lv_goto (tgt := 76) hx hb dX10_feed_71 (by decide) ?_
            exact sBX10_feed_76 C hr hr23  hd (lv_sub hl [0, 1, 2, 3, 4, 5, 6] rfl) h
        · rw [if_neg c4] at h
          refine lv_iload_n hx hb dX10_feed_58 rfl (lv_at hl 3 rfl) ?_
          refine lv_goto (tgt := 76) hx hb dX10_feed_59 (by decide) ?_
          exact sBX10_feed_76 C hr hr23  hd (lv_sub hl [0, 1, 2, 3, 4, 5, 6] rfl) h
      · rw [if_neg c3] at h
        refine lv_iload_n hx hb dX10_feed_47 rfl (lv_at hl 2 rfl) ?_
        refine lv_goto (tgt := 76) hx hb dX10_feed_48 (by decide) ?_
        exact sBX10_feed_76 C hr hr23  hd (lv_sub hl [0, 1, 2, 3, 4, 5, 6] rfl) h
    · rw [if_neg c2] at h
      refine lv_iload_n hx hb dX10_feed_36 rfl (lv_at hl 1 rfl) ?_
      refine lv_goto (tgt := 76) hx hb dX10_feed_37 (by decide) ?_
      exact sBX10_feed_76 C hr hr23  hd (lv_sub hl [0, 1, 2, 3, 4, 5, 6] rfl) h
def LX10_feed_23 : Nat → Int32 → Int32 → Int32 → Int32 → Int32 → Int32 → St → Option (Int32 × St)
  | 0 => fun _ _ _ _ _ _ _ => none
  | n + 1 => fun l1 l2 l3 l4 l5 l6 S => KX10_feed_23 (LX10_feed_23 n) l1 l2 l3 l4 l5 l6 S
theorem sLX10_feed_23 (C : Cx p s m args meth c cX10_feed 8 RX10 G) (hr : meth.sig.returnType = some .int) : ∀ (n : Nat) (l1 : Int32) (l2 : Int32) (l3 : Int32) (l4 : Int32) (l5 : Int32) (l6 : Int32) (S : St) (res : (Int32 × St)) (H : Heap) (locs : List Loc) (ls : Array Slot), Dy G S s H locs → lv_has ls 8 [(0, .ref (gR G 142)), (1, .int l1), (2, .int l2), (3, .int l3), (4, .int l4), (5, .int l5), (6, .int l6)] → LX10_feed_23 n l1 l2 l3 l4 l5 l6 S = some res → W p l e (rmL 3 0 0) s m args below meth c H locs 0 0 (MQ below (QI G res.1 res.2) args s 0 0 (Ab G)) (F0 m 23 ls []) := by
  intro n
  induction n with
  | zero => intro l1 l2 l3 l4 l5 l6 S res H locs ls  hd hl h; cases h
  | succ n ih =>
    intro l1 l2 l3 l4 l5 l6 S res H locs ls  hd hl h
    exact sKX10_feed_23 C hr ih  hd hl h
def fX10_feed (a1 : Int32) (a2 : Int32) (a3 : Int32) (a4 : Int32) (a5 : Int32) (S : St) : Option (Int32 × St) :=
  pf S 142 3 0 fun S => (if ((S 142 17) + 20) ≤ 700 then (LX10_feed_23 FU a1 a2 a3 a4 a5 0 S) else ri ((-1)) S)
set_option maxHeartbeats 4000000 in
set_option maxRecDepth 20000 in
theorem sfX10_feed (C : Cx p s m args meth c cX10_feed 8 RX10 G) (hr : meth.sig.returnType = some .int) {a1 : Int32} {a2 : Int32} {a3 : Int32} {a4 : Int32} {a5 : Int32} {S : St} {res : (Int32 × St)} {H : Heap} {locs : List Loc} {ls : Array Slot}  (hd : Dy G S s H locs) (hl : lv_has ls 8 [(0, .ref (gR G 142)), (1, .int a1), (2, .int a2), (3, .int a3), (4, .int a4), (5, .int a5)]) (h : fX10_feed a1 a2 a3 a4 a5 S = some res) : W p l e (rmL 3 0 0) s m args below meth c H locs 0 0 (MQ below (QI G res.1 res.2) args s 0 0 (Ab G)) (F0 m 0 ls []) := by
  unfold fX10_feed at h
  have hx := C.1.1
  have hb := C.1.2.1
  refine lv_aload_n hx hb dX10_feed_0 rfl (lv_at hl 0 rfl) ?_
  refine lv_iconst (v := 0) hx hb dX10_feed_1 (by decide) ?_
  refine pX10_167 C hd (rfl : kd 142 = 10) h dX10_feed_2 (fun S H locs hd h => ?_)
  refine lv_aload_n hx hb dX10_feed_5 rfl (lv_at hl 0 rfl) ?_
  refine gX10_174 C hd (rfl : kd 142 = 10) dX10_feed_6 ?_
  refine lv_bipush (v := 20) hx hb dX10_feed_9 (by decide) ?_
  refine lv_iadd hx hb dX10_feed_11 ?_
  refine lv_sipush (v := 700) hx hb dX10_feed_12 (by decide) ?_
  refine lv_icmp_le (tgt := 20) hx hb dX10_feed_15 (by decide) (fun c1 => ?_) (fun c1 => ?_)
  · rw [if_pos c1] at h
    refine lv_iconst (v := 0) hx hb dX10_feed_20 (by decide) ?_
    refine lv_istore (lv' := [(6, .int 0), (0, .ref (gR G 142)), (1, .int a1), (2, .int a2), (3, .int a3), (4, .int a4), (5, .int a5)]) hx hb dX10_feed_21 hl (by decide) rfl (fun ls hl => ?_)
    exact sLX10_feed_23 C hr _ a1 a2 a3 a4 a5 0 _ _ _ _ _  hd (lv_sub hl [1, 2, 3, 4, 5, 6, 0] rfl) h
  · rw [if_neg c1] at h
    refine lv_iconst (v := -1) hx hb dX10_feed_18 (by decide) ?_
    exact R_iret C hr hd h dX10_feed_19
set_option maxRecDepth 20000 in
theorem ccX10_feed (l : Launch) (G : Gt) {a1 : Int32} {a2 : Int32} {a3 : Int32} {a4 : Int32} {a5 : Int32} {S : St} {res : (Int32 × St)}  (h : fX10_feed a1 a2 a3 a4 a5 S = some res) : Met l yX10_feed (wm yX10_feed cX10_feed 8 (some .int)) (rmL 3 0 0) (PcW G S [.ref (gR G 142), .int a1, .int a2, .int a3, .int a4, .int a5]) (QI G res.1 res.2) 0 0 (Ab G) := by
  refine Met.ofW (cc := cX10_feed) (maxL := 8) (ret := (some .int)) (by decide) rfl ?_
  intro p e s m args below meth c s₁ B hml hv
  obtain ⟨rfl, hK, hP⟩ := hv
  have C : Cx p s m _ meth c cX10_feed 8 RX10 G := ⟨⟨B.exec, B.bytes, hml, findClass_of_methodNamed B.named, fun w hw => atoms_spec (ws := wm yX10_feed cX10_feed 8 (some .int)) B.pre w (List.mem_cons_of_mem _ hw)⟩, B.notSynchronized, hK⟩
  have hl := lv_entry ([.ref (gR G 142), .int a1, .int a2, .int a3, .int a4, .int a5]) (n := 8) (Nat.le_of_ble_eq_true rfl)
  rw [lg_entry_eq]
  generalize (lg_sl ([.ref (gR G 142), .int a1, .int a2, .int a3, .int a4, .int a5]) ++ List.replicate (8 - (lg_sl ([.ref (gR G 142), .int a1, .int a2, .int a3, .int a4, .int a5])).length) Slot.unset).toArray = ls at hl ⊢
  exact sfX10_feed C B.returns  ⟨hP, va_S.rf⟩ hl h
def BX10_oneNow_33 (l2 : Int32) (S : St) : Option (Int32 × St) :=
  (if (S 142 24) = 0 then ri l2 S else ri 0 S)
set_option maxHeartbeats 4000000 in
set_option maxRecDepth 20000 in
theorem sBX10_oneNow_33 (C : Cx p s m args meth c cX10_oneNow 3 RX10 G) (hr : meth.sig.returnType = some .int) {l2 : Int32} {S : St} {res : (Int32 × St)} {H : Heap} {locs : List Loc} {ls : Array Slot}  (hd : Dy G S s H locs) (hl : lv_has ls 3 [(0, .ref (gR G 142)), (2, .int l2)]) (h : BX10_oneNow_33 l2 S = some res) : W p l e (rmL 5 0 0) s m args below meth c H locs 0 0 (MQ below (QI G res.1 res.2) args s 0 0 (Ab G)) (F0 m 33 ls []) := by
  unfold BX10_oneNow_33 at h
  have hx := C.1.1
  have hb := C.1.2.1
  refine lv_aload_n hx hb dX10_oneNow_33 rfl (lv_at hl 0 rfl) ?_
  refine gX10_216 C hd (rfl : kd 142 = 10) dX10_oneNow_34 ?_
  refine lv_if_ne (tgt := 44) hx hb dX10_oneNow_37 (by decide) (fun c1 => ?_) (fun c1 => ?_)
  · rw [if_neg c1] at h
    refine lv_iconst (v := 0) hx hb dX10_oneNow_44 (by decide) ?_
    exact R_iret C hr hd h dX10_oneNow_45
  · rw [if_pos c1] at h
    refine lv_iload_n hx hb dX10_oneNow_40 rfl (lv_at hl 1 rfl) ?_
    refine lv_goto (tgt := 45) hx hb dX10_oneNow_41 (by decide) ?_
    exact R_iret C hr hd h dX10_oneNow_45
def fX10_oneNow (a1 : Int32) (S : St) : Option (Int32 × St) :=
  bd (fX10_numberNow 0 9999 S) fun x1 S => (if (S 142 24) = 0 then rd S 145 (5 + a1) fun x4 => (if x1 < x4 then (BX10_oneNow_33 x1 S) else bv (fX10_wrong 3 S) fun S => (BX10_oneNow_33 x1 S)) else (BX10_oneNow_33 x1 S))
set_option maxHeartbeats 4000000 in
set_option maxRecDepth 20000 in
theorem sfX10_oneNow (C : Cx p s m args meth c cX10_oneNow 3 RX10 G) (hr : meth.sig.returnType = some .int) {a1 : Int32} {S : St} {res : (Int32 × St)} {H : Heap} {locs : List Loc} {ls : Array Slot}  (hd : Dy G S s H locs) (hl : lv_has ls 3 [(0, .ref (gR G 142)), (1, .int a1)]) (h : fX10_oneNow a1 S = some res) : W p l e (rmL 5 0 0) s m args below meth c H locs 0 0 (MQ below (QI G res.1 res.2) args s 0 0 (Ab G)) (F0 m 0 ls []) := by
  unfold fX10_oneNow at h
  have hx := C.1.1
  have hb := C.1.2.1
  refine lv_aload_n hx hb dX10_oneNow_0 rfl (lv_at hl 0 rfl) ?_
  refine lv_iconst (v := 0) hx hb dX10_oneNow_1 (by decide) ?_
  refine lv_sipush (v := 9999) hx hb dX10_oneNow_2 (by decide) ?_
  obtain ⟨x1, S1, hc, h⟩ := bd_some h
  refine R_cVi C hd (ccX10_numberNow l G  hc) kX10_244 rfl (by decide) (rfl : kd 142 = 10) hl.1 ⟨by decide, by decide⟩ rfl rfl (Nat.le_of_ble_eq_true rfl) dX10_oneNow_5 ⟨Nat.zero_le _, Nat.zero_le _⟩ (fun H locs hd => ?_)
  generalize S1 = S at h hd
  refine lv_istore_n (lv' := [(2, .int x1), (0, .ref (gR G 142)), (1, .int a1)]) hx hb dX10_oneNow_8 rfl hl (by decide) rfl (fun ls hl => ?_)
  refine lv_aload_n hx hb dX10_oneNow_9 rfl (lv_at hl 1 rfl) ?_
  refine gX10_216 C hd (rfl : kd 142 = 10) dX10_oneNow_10 ?_
  refine lv_if_ne (tgt := 33) hx hb dX10_oneNow_13 (by decide) (fun c2 => ?_) (fun c2 => ?_)
  · rw [if_neg c2] at h
    exact sBX10_oneNow_33 C hr  hd (lv_sub hl [1, 0] rfl) h
  · rw [if_pos c2] at h
    refine lv_iload_n hx hb dX10_oneNow_16 rfl (lv_at hl 0 rfl) ?_
    refine lv_aload_n hx hb dX10_oneNow_17 rfl (lv_at hl 1 rfl) ?_
    refine gX10_39 C hd (rfl : kd 142 = 10) (q := 145) rfl dX10_oneNow_18 (fun y3 => ?_)
    refine lv_iconst (v := 5) hx hb dX10_oneNow_21 (by decide) ?_
    refine lv_iload_n hx hb dX10_oneNow_22 rfl (lv_at hl 2 rfl) ?_
    refine lv_iadd hx hb dX10_oneNow_23 ?_
    refine R_iald C hd y3 h dX10_oneNow_24 (fun x4 h => ?_)
    refine lv_icmp_lt (tgt := 33) hx hb dX10_oneNow_25 (by decide) (fun c5 => ?_) (fun c5 => ?_)
    · rw [if_pos c5] at h
      exact sBX10_oneNow_33 C hr  hd (lv_sub hl [1, 0] rfl) h
    · rw [if_neg c5] at h
      refine lv_aload_n hx hb dX10_oneNow_28 rfl (lv_at hl 1 rfl) ?_
      refine lv_iconst (v := 3) hx hb dX10_oneNow_29 (by decide) ?_
      obtain ⟨S1, hc, h⟩ := bv_some h
      refine R_cVv C hd (ccX10_wrong l G  hc) kX10_237 rfl (by decide) (rfl : kd 142 = 10) hl.1 ⟨by decide, by decide⟩ rfl rfl (Nat.le_of_ble_eq_true rfl) dX10_oneNow_30 ⟨Nat.zero_le _, Nat.zero_le _⟩ (fun H locs hd => ?_)
      generalize S1 = S at h hd
      exact sBX10_oneNow_33 C hr  hd (lv_sub hl [1, 0] rfl) h
set_option maxRecDepth 20000 in
theorem ccX10_oneNow (l : Launch) (G : Gt) {a1 : Int32} {S : St} {res : (Int32 × St)}  (h : fX10_oneNow a1 S = some res) : Met l yX10_oneNow (wm yX10_oneNow cX10_oneNow 3 (some .int)) (rmL 5 0 0) (PcW G S [.ref (gR G 142), .int a1]) (QI G res.1 res.2) 0 0 (Ab G) := by
  refine Met.ofW (cc := cX10_oneNow) (maxL := 3) (ret := (some .int)) (by decide) rfl ?_
  intro p e s m args below meth c s₁ B hml hv
  obtain ⟨rfl, hK, hP⟩ := hv
  have C : Cx p s m _ meth c cX10_oneNow 3 RX10 G := ⟨⟨B.exec, B.bytes, hml, findClass_of_methodNamed B.named, fun w hw => atoms_spec (ws := wm yX10_oneNow cX10_oneNow 3 (some .int)) B.pre w (List.mem_cons_of_mem _ hw)⟩, B.notSynchronized, hK⟩
  have hl := lv_entry ([.ref (gR G 142), .int a1]) (n := 3) (Nat.le_of_ble_eq_true rfl)
  rw [lg_entry_eq]
  generalize (lg_sl ([.ref (gR G 142), .int a1]) ++ List.replicate (3 - (lg_sl ([.ref (gR G 142), .int a1])).length) Slot.unset).toArray = ls at hl ⊢
  exact sfX10_oneNow C B.returns  ⟨hP, va_S.rf⟩ hl h
def fX10_readOne (a1 : Int32) (S : St) : Option (Int32 × St) :=
  bd (fX10_oneNow a1 S) fun x1 S => (if (S 142 24) = 0 then bv (fX10_stepOn  S) fun S => ri x1 S else ri x1 S)
set_option maxHeartbeats 4000000 in
set_option maxRecDepth 20000 in
theorem sfX10_readOne (C : Cx p s m args meth c cX10_readOne 3 RX10 G) (hr : meth.sig.returnType = some .int) {a1 : Int32} {S : St} {res : (Int32 × St)} {H : Heap} {locs : List Loc} {ls : Array Slot}  (hd : Dy G S s H locs) (hl : lv_has ls 3 [(0, .ref (gR G 142)), (1, .int a1)]) (h : fX10_readOne a1 S = some res) : W p l e (rmL 6 0 0) s m args below meth c H locs 0 0 (MQ below (QI G res.1 res.2) args s 0 0 (Ab G)) (F0 m 0 ls []) := by
  unfold fX10_readOne at h
  have hx := C.1.1
  have hb := C.1.2.1
  refine lv_aload_n hx hb dX10_readOne_0 rfl (lv_at hl 0 rfl) ?_
  refine lv_iload_n hx hb dX10_readOne_1 rfl (lv_at hl 1 rfl) ?_
  obtain ⟨x1, S1, hc, h⟩ := bd_some h
  refine R_cVi C hd (ccX10_oneNow l G  hc) kX10_247 rfl (by decide) (rfl : kd 142 = 10) hl.1 ⟨by decide, by decide⟩ rfl rfl (Nat.le_of_ble_eq_true rfl) dX10_readOne_2 ⟨Nat.zero_le _, Nat.zero_le _⟩ (fun H locs hd => ?_)
  generalize S1 = S at h hd
  refine lv_istore_n (lv' := [(2, .int x1), (0, .ref (gR G 142)), (1, .int a1)]) hx hb dX10_readOne_5 rfl hl (by decide) rfl (fun ls hl => ?_)
  refine lv_aload_n hx hb dX10_readOne_6 rfl (lv_at hl 1 rfl) ?_
  refine gX10_216 C hd (rfl : kd 142 = 10) dX10_readOne_7 ?_
  refine lv_if_ne (tgt := 17) hx hb dX10_readOne_10 (by decide) (fun c2 => ?_) (fun c2 => ?_)
  · rw [if_neg c2] at h
    refine lv_iload_n hx hb dX10_readOne_17 rfl (lv_at hl 0 rfl) ?_
    exact R_iret C hr hd h dX10_readOne_18
  · rw [if_pos c2] at h
    refine lv_aload_n hx hb dX10_readOne_13 rfl (lv_at hl 1 rfl) ?_
    obtain ⟨S1, hc, h⟩ := bv_some h
    refine R_cVv C hd (ccX10_stepOn l G  hc) kX10_241 rfl (by decide) (rfl : kd 142 = 10) hl.1 ⟨by decide, by decide⟩ rfl rfl (Nat.le_of_ble_eq_true rfl) dX10_readOne_14 ⟨Nat.zero_le _, Nat.zero_le _⟩ (fun H locs hd => ?_)
    generalize S1 = S at h hd
    refine lv_iload_n hx hb dX10_readOne_17 rfl (lv_at hl 0 rfl) ?_
    exact R_iret C hr hd h dX10_readOne_18
set_option maxRecDepth 20000 in
theorem ccX10_readOne (l : Launch) (G : Gt) {a1 : Int32} {S : St} {res : (Int32 × St)}  (h : fX10_readOne a1 S = some res) : Met l yX10_readOne (wm yX10_readOne cX10_readOne 3 (some .int)) (rmL 6 0 0) (PcW G S [.ref (gR G 142), .int a1]) (QI G res.1 res.2) 0 0 (Ab G) := by
  refine Met.ofW (cc := cX10_readOne) (maxL := 3) (ret := (some .int)) (by decide) rfl ?_
  intro p e s m args below meth c s₁ B hml hv
  obtain ⟨rfl, hK, hP⟩ := hv
  have C : Cx p s m _ meth c cX10_readOne 3 RX10 G := ⟨⟨B.exec, B.bytes, hml, findClass_of_methodNamed B.named, fun w hw => atoms_spec (ws := wm yX10_readOne cX10_readOne 3 (some .int)) B.pre w (List.mem_cons_of_mem _ hw)⟩, B.notSynchronized, hK⟩
  have hl := lv_entry ([.ref (gR G 142), .int a1]) (n := 3) (Nat.le_of_ble_eq_true rfl)
  rw [lg_entry_eq]
  generalize (lg_sl ([.ref (gR G 142), .int a1]) ++ List.replicate (3 - (lg_sl ([.ref (gR G 142), .int a1])).length) Slot.unset).toArray = ls at hl ⊢
  exact sfX10_readOne C B.returns  ⟨hP, va_S.rf⟩ hl h
def BX10_another_17  (S : St) : Option (Int32 × St) :=
  (if (S 142 24) = 0 then bv (fX10_stepOn  S) fun S => rz 1 S else rz 0 S)
set_option maxHeartbeats 4000000 in
set_option maxRecDepth 20000 in
theorem sBX10_another_17 (C : Cx p s m args meth c cX10_another 3 RX10 G) (hr : meth.sig.returnType = some .boolean)  {S : St} {res : (Int32 × St)} {H : Heap} {locs : List Loc} {ls : Array Slot}  (hd : Dy G S s H locs) (hl : lv_has ls 3 [(0, .ref (gR G 142))]) (h : BX10_another_17  S = some res) : W p l e (rmL 5 0 0) s m args below meth c H locs 0 0 (MQ below (QI G res.1 res.2) args s 0 0 (Ab G)) (F0 m 17 ls []) := by
  unfold BX10_another_17 at h
  have hx := C.1.1
  have hb := C.1.2.1
  refine lv_aload_n hx hb dX10_another_17 rfl (lv_at hl 0 rfl) ?_
  refine gX10_216 C hd (rfl : kd 142 = 10) dX10_another_18 ?_
  refine lv_if_eq (tgt := 26) hx hb dX10_another_21 (by decide) (fun c1 => ?_) (fun c1 => ?_)
  · rw [if_pos c1] at h
    refine lv_aload_n hx hb dX10_another_26 rfl (lv_at hl 0 rfl) ?_
    obtain ⟨S1, hc, h⟩ := bv_some h
    refine R_cVv C hd (ccX10_stepOn l G  hc) kX10_241 rfl (by decide) (rfl : kd 142 = 10) hl.1 ⟨by decide, by decide⟩ rfl rfl (Nat.le_of_ble_eq_true rfl) dX10_another_27 ⟨Nat.zero_le _, Nat.zero_le _⟩ (fun H locs hd => ?_)
    generalize S1 = S at h hd
    refine lv_iconst (v := 1) hx hb dX10_another_30 (by decide) ?_
    exact R_zret C hr hd h dX10_another_31
  · rw [if_neg c1] at h
    refine lv_iconst (v := 0) hx hb dX10_another_24 (by decide) ?_
    exact R_zret C hr hd h dX10_another_25
def fX10_another (a1 : Int32) (a2 : Int32) (S : St) : Option (Int32 × St) :=
  rd S 145 (5 + a1) fun x2 => (if x2 = a2 then bv (fX10_wrong 2 S) fun S => (BX10_another_17  S) else (BX10_another_17  S))
set_option maxHeartbeats 4000000 in
set_option maxRecDepth 20000 in
theorem sfX10_another (C : Cx p s m args meth c cX10_another 3 RX10 G) (hr : meth.sig.returnType = some .boolean) {a1 : Int32} {a2 : Int32} {S : St} {res : (Int32 × St)} {H : Heap} {locs : List Loc} {ls : Array Slot}  (hd : Dy G S s H locs) (hl : lv_has ls 3 [(0, .ref (gR G 142)), (1, .int a1), (2, .int a2)]) (h : fX10_another a1 a2 S = some res) : W p l e (rmL 5 0 0) s m args below meth c H locs 0 0 (MQ below (QI G res.1 res.2) args s 0 0 (Ab G)) (F0 m 0 ls []) := by
  unfold fX10_another at h
  have hx := C.1.1
  have hb := C.1.2.1
  refine lv_aload_n hx hb dX10_another_0 rfl (lv_at hl 0 rfl) ?_
  refine gX10_39 C hd (rfl : kd 142 = 10) (q := 145) rfl dX10_another_1 (fun y1 => ?_)
  refine lv_iconst (v := 5) hx hb dX10_another_4 (by decide) ?_
  refine lv_iload_n hx hb dX10_another_5 rfl (lv_at hl 1 rfl) ?_
  refine lv_iadd hx hb dX10_another_6 ?_
  refine R_iald C hd y1 h dX10_another_7 (fun x2 h => ?_)
  refine lv_iload_n hx hb dX10_another_8 rfl (lv_at hl 2 rfl) ?_
  refine lv_icmp_ne (tgt := 17) hx hb dX10_another_9 (by decide) (fun c3 => ?_) (fun c3 => ?_)
  · rw [if_neg c3] at h
    exact sBX10_another_17 C hr  hd (lv_sub hl [0] rfl) h
  · rw [if_pos c3] at h
    refine lv_aload_n hx hb dX10_another_12 rfl (lv_at hl 0 rfl) ?_
    refine lv_iconst (v := 2) hx hb dX10_another_13 (by decide) ?_
    obtain ⟨S1, hc, h⟩ := bv_some h
    refine R_cVv C hd (ccX10_wrong l G  hc) kX10_237 rfl (by decide) (rfl : kd 142 = 10) hl.1 ⟨by decide, by decide⟩ rfl rfl (Nat.le_of_ble_eq_true rfl) dX10_another_14 ⟨Nat.zero_le _, Nat.zero_le _⟩ (fun H locs hd => ?_)
    generalize S1 = S at h hd
    exact sBX10_another_17 C hr  hd (lv_sub hl [0] rfl) h
set_option maxRecDepth 20000 in
theorem ccX10_another (l : Launch) (G : Gt) {a1 : Int32} {a2 : Int32} {S : St} {res : (Int32 × St)}  (h : fX10_another a1 a2 S = some res) : Met l yX10_another (wm yX10_another cX10_another 3 (some .boolean)) (rmL 5 0 0) (PcW G S [.ref (gR G 142), .int a1, .int a2]) (QI G res.1 res.2) 0 0 (Ab G) := by
  refine Met.ofW (cc := cX10_another) (maxL := 3) (ret := (some .boolean)) (by decide) rfl ?_
  intro p e s m args below meth c s₁ B hml hv
  obtain ⟨rfl, hK, hP⟩ := hv
  have C : Cx p s m _ meth c cX10_another 3 RX10 G := ⟨⟨B.exec, B.bytes, hml, findClass_of_methodNamed B.named, fun w hw => atoms_spec (ws := wm yX10_another cX10_another 3 (some .boolean)) B.pre w (List.mem_cons_of_mem _ hw)⟩, B.notSynchronized, hK⟩
  have hl := lv_entry ([.ref (gR G 142), .int a1, .int a2]) (n := 3) (Nat.le_of_ble_eq_true rfl)
  rw [lg_entry_eq]
  generalize (lg_sl ([.ref (gR G 142), .int a1, .int a2]) ++ List.replicate (3 - (lg_sl ([.ref (gR G 142), .int a1, .int a2])).length) Slot.unset).toArray = ls at hl ⊢
  exact sfX10_another C B.returns  ⟨hP, va_S.rf⟩ hl h
def BX10_sayField_109 (l1 : Int32) (l2 : Int32) (S : St) : Option St :=
  wr S 147 l1 l2 fun S => wr S 153 l1 ((-1)) fun S => rd S 145 5 fun x4 => wr S 145 5 (x4 + 1) fun S => some S
set_option maxHeartbeats 4000000 in
set_option maxRecDepth 20000 in
theorem sBX10_sayField_109 (C : Cx p s m args meth c cX10_sayField 4 RX10 G) (hr : meth.sig.returnType = none) {l1 : Int32} {l2 : Int32} {S : St} {res : St} {H : Heap} {locs : List Loc} {ls : Array Slot}  (hd : Dy G S s H locs) (hl : lv_has ls 4 [(0, .ref (gR G 142)), (1, .int l1), (2, .int l2)]) (h : BX10_sayField_109 l1 l2 S = some res) : W p l e (rmL 6 0 0) s m args below meth c H locs 0 0 (MQ below (QV G res) args s 0 0 (Ab G)) (F0 m 109 ls []) := by
  unfold BX10_sayField_109 at h
  have hx := C.1.1
  have hb := C.1.2.1
  refine lv_aload_n hx hb dX10_sayField_109 rfl (lv_at hl 0 rfl) ?_
  refine gX10_45 C hd (rfl : kd 142 = 10) (q := 147) rfl dX10_sayField_110 (fun y1 => ?_)
  refine lv_iload_n hx hb dX10_sayField_113 rfl (lv_at hl 1 rfl) ?_
  refine lv_iload_n hx hb dX10_sayField_114 rfl (lv_at hl 2 rfl) ?_
  refine R_iast C hd y1 h dX10_sayField_115 (fun S H locs hd h => ?_)
  refine lv_aload_n hx hb dX10_sayField_116 rfl (lv_at hl 0 rfl) ?_
  refine gX10_62 C hd (rfl : kd 142 = 10) (q := 153) rfl dX10_sayField_117 (fun y2 => ?_)
  refine lv_iload_n hx hb dX10_sayField_120 rfl (lv_at hl 1 rfl) ?_
  refine lv_iconst (v := -1) hx hb dX10_sayField_121 (by decide) ?_
  refine R_iast C hd y2 h dX10_sayField_122 (fun S H locs hd h => ?_)
  refine lv_aload_n hx hb dX10_sayField_123 rfl (lv_at hl 0 rfl) ?_
  refine gX10_39 C hd (rfl : kd 142 = 10) (q := 145) rfl dX10_sayField_124 (fun y3 => ?_)
  refine lv_iconst (v := 5) hx hb dX10_sayField_127 (by decide) ?_
  refine lv_dup2_11 hx hb dX10_sayField_128 rfl rfl ?_
  refine R_iald C hd y3 h dX10_sayField_129 (fun x4 h => ?_)
  refine lv_iconst (v := 1) hx hb dX10_sayField_130 (by decide) ?_
  refine lv_iadd hx hb dX10_sayField_131 ?_
  refine R_iast C hd y3 h dX10_sayField_132 (fun S H locs hd h => ?_)
  exact R_vret C hr hd h dX10_sayField_133
def BX10_sayField_75 (r36 : Int32 → Int32 → St → Option St) (l1 : Int32) (l2 : Int32) (S : St) : Option St :=
  bd (fX10_readNumber 0 9 S) fun x1 S => (if (S 142 24) = 0 then wr S 148 ((6 * l1) + l2) x1 fun S => vl (l2 + 1) fun x4 => (r36 l1 x4 S) else some S)
set_option maxHeartbeats 4000000 in
set_option maxRecDepth 20000 in
theorem sBX10_sayField_75 (C : Cx p s m args meth c cX10_sayField 4 RX10 G) (hr : meth.sig.returnType = none) {r36 : Int32 → Int32 → St → Option St} (hr36 : ∀ (l1 : Int32) (l2 : Int32) (S : St) (res : St) (H : Heap) (locs : List Loc) (ls : Array Slot), Dy G S s H locs → lv_has ls 4 [(0, .ref (gR G 142)), (1, .int l1), (2, .int l2)] → r36 l1 l2 S = some res → W p l e (rmL 6 0 0) s m args below meth c H locs 0 0 (MQ below (QV G res) args s 0 0 (Ab G)) (F0 m 36 ls [])) {l1 : Int32} {l2 : Int32} {S : St} {res : St} {H : Heap} {locs : List Loc} {ls : Array Slot}  (hd : Dy G S s H locs) (hl : lv_has ls 4 [(0, .ref (gR G 142)), (1, .int l1), (2, .int l2)]) (h : BX10_sayField_75 r36 l1 l2 S = some res) : W p l e (rmL 6 0 0) s m args below meth c H locs 0 0 (MQ below (QV G res) args s 0 0 (Ab G)) (F0 m 75 ls []) := by
  unfold BX10_sayField_75 at h
  have hx := C.1.1
  have hb := C.1.2.1
  refine lv_aload_n hx hb dX10_sayField_75 rfl (lv_at hl 0 rfl) ?_
  refine lv_iconst (v := 0) hx hb dX10_sayField_76 (by decide) ?_
  refine lv_bipush (v := 9) hx hb dX10_sayField_77 (by decide) ?_
  obtain ⟨x1, S1, hc, h⟩ := bd_some h
  refine R_cVi C hd (ccX10_readNumber l G  hc) kX10_254 rfl (by decide) (rfl : kd 142 = 10) hl.1 ⟨by decide, by decide⟩ rfl rfl (Nat.le_of_ble_eq_true rfl) dX10_sayField_79 ⟨Nat.zero_le _, Nat.zero_le _⟩ (fun H locs hd => ?_)
  generalize S1 = S at h hd
  refine lv_istore_n (lv' := [(3, .int x1), (0, .ref (gR G 142)), (1, .int l1), (2, .int l2)]) hx hb dX10_sayField_82 rfl hl (by decide) rfl (fun ls hl => ?_)
  refine lv_aload_n hx hb dX10_sayField_83 rfl (lv_at hl 1 rfl) ?_
  refine gX10_216 C hd (rfl : kd 142 = 10) dX10_sayField_84 ?_
  refine lv_if_eq (tgt := 91) hx hb dX10_sayField_87 (by decide) (fun c2 => ?_) (fun c2 => ?_)
  · rw [if_pos c2] at h
    refine lv_aload_n hx hb dX10_sayField_91 rfl (lv_at hl 1 rfl) ?_
    refine gX10_48 C hd (rfl : kd 142 = 10) (q := 148) rfl dX10_sayField_92 (fun y3 => ?_)
    refine lv_bipush (v := 6) hx hb dX10_sayField_95 (by decide) ?_
    refine lv_iload_n hx hb dX10_sayField_97 rfl (lv_at hl 2 rfl) ?_
    refine lv_imul hx hb dX10_sayField_98 ?_
    refine lv_iload_n hx hb dX10_sayField_99 rfl (lv_at hl 3 rfl) ?_
    refine lv_iadd hx hb dX10_sayField_100 ?_
    refine lv_iload_n hx hb dX10_sayField_101 rfl (lv_at hl 0 rfl) ?_
    refine R_iast C hd y3 h dX10_sayField_102 (fun S H locs hd h => ?_)
    refine R_vi h (fun x4 ex4 h => ?_)
    refine lv_iinc (v := x4) (lv' := [(2, .int x4), (3, .int x1), (0, .ref (gR G 142)), (1, .int l1)]) hx hb dX10_sayField_103 hl (k := 3) rfl (by rw [ex4]; rfl) (by decide) rfl (fun ls hl => ?_)
    refine lv_goto (tgt := 36) hx hb dX10_sayField_106 (by decide) ?_
    exact hr36 l1 x4 _ _ _ _ _  hd (lv_sub hl [2, 3, 0] rfl) h
  · rw [if_neg c2] at h
    exact R_vret C hr hd h dX10_sayField_90
def BX10_sayField_56 (r36 : Int32 → Int32 → St → Option St) (l1 : Int32) (l2 : Int32) (S : St) : Option St :=
  (if (S 142 20) = 2 then (if l2 = 6 then bv (fX10_wrong 2 S) fun S => (BX10_sayField_75 r36 l1 l2 S) else (BX10_sayField_75 r36 l1 l2 S)) else (BX10_sayField_75 r36 l1 l2 S))
set_option maxHeartbeats 4000000 in
set_option maxRecDepth 20000 in
theorem sBX10_sayField_56 (C : Cx p s m args meth c cX10_sayField 4 RX10 G) (hr : meth.sig.returnType = none) {r36 : Int32 → Int32 → St → Option St} (hr36 : ∀ (l1 : Int32) (l2 : Int32) (S : St) (res : St) (H : Heap) (locs : List Loc) (ls : Array Slot), Dy G S s H locs → lv_has ls 4 [(0, .ref (gR G 142)), (1, .int l1), (2, .int l2)] → r36 l1 l2 S = some res → W p l e (rmL 6 0 0) s m args below meth c H locs 0 0 (MQ below (QV G res) args s 0 0 (Ab G)) (F0 m 36 ls [])) {l1 : Int32} {l2 : Int32} {S : St} {res : St} {H : Heap} {locs : List Loc} {ls : Array Slot}  (hd : Dy G S s H locs) (hl : lv_has ls 4 [(0, .ref (gR G 142)), (1, .int l1), (2, .int l2)]) (h : BX10_sayField_56 r36 l1 l2 S = some res) : W p l e (rmL 6 0 0) s m args below meth c H locs 0 0 (MQ below (QV G res) args s 0 0 (Ab G)) (F0 m 56 ls []) := by
  unfold BX10_sayField_56 at h
  have hx := C.1.1
  have hb := C.1.2.1
  refine lv_aload_n hx hb dX10_sayField_56 rfl (lv_at hl 0 rfl) ?_
  refine gX10_190 C hd (rfl : kd 142 = 10) dX10_sayField_57 ?_
  refine lv_iconst (v := 2) hx hb dX10_sayField_60 (by decide) ?_
  refine lv_icmp_ne (tgt := 75) hx hb dX10_sayField_61 (by decide) (fun c1 => ?_) (fun c1 => ?_)
  · rw [if_neg c1] at h
    exact sBX10_sayField_75 C hr hr36  hd (lv_sub hl [0, 1, 2] rfl) h
  · rw [if_pos c1] at h
    refine lv_iload_n hx hb dX10_sayField_64 rfl (lv_at hl 2 rfl) ?_
    refine lv_bipush (v := 6) hx hb dX10_sayField_65 (by decide) ?_
    refine lv_icmp_ne (tgt := 75) hx hb dX10_sayField_67 (by decide) (fun c2 => ?_) (fun c2 => ?_)
    · rw [if_neg c2] at h
      exact sBX10_sayField_75 C hr hr36  hd (lv_sub hl [0, 1, 2] rfl) h
    · rw [if_pos c2] at h
      refine lv_aload_n hx hb dX10_sayField_70 rfl (lv_at hl 0 rfl) ?_
      refine lv_iconst (v := 2) hx hb dX10_sayField_71 (by decide) ?_
      obtain ⟨S1, hc, h⟩ := bv_some h
      refine R_cVv C hd (ccX10_wrong l G  hc) kX10_237 rfl (by decide) (rfl : kd 142 = 10) hl.1 ⟨by decide, by decide⟩ rfl rfl (Nat.le_of_ble_eq_true rfl) dX10_sayField_72 ⟨Nat.zero_le _, Nat.zero_le _⟩ (fun H locs hd => ?_)
      generalize S1 = S at h hd
      exact sBX10_sayField_75 C hr hr36  hd (lv_sub hl [0, 1, 2] rfl) h
def KX10_sayField_36 (r36 : Int32 → Int32 → St → Option St) (l1 : Int32) (l2 : Int32) (S : St) : Option St :=
  (if (S 142 24) = 0 then (if l2 < 2 then (BX10_sayField_56 r36 l1 l2 S) else (if (S 142 20) = 2 then (BX10_sayField_56 r36 l1 l2 S) else (BX10_sayField_109 l1 l2 S))) else (BX10_sayField_109 l1 l2 S))
set_option maxHeartbeats 4000000 in
set_option maxRecDepth 20000 in
theorem sKX10_sayField_36 (C : Cx p s m args meth c cX10_sayField 4 RX10 G) (hr : meth.sig.returnType = none) {r36 : Int32 → Int32 → St → Option St} (hr36 : ∀ (l1 : Int32) (l2 : Int32) (S : St) (res : St) (H : Heap) (locs : List Loc) (ls : Array Slot), Dy G S s H locs → lv_has ls 4 [(0, .ref (gR G 142)), (1, .int l1), (2, .int l2)] → r36 l1 l2 S = some res → W p l e (rmL 6 0 0) s m args below meth c H locs 0 0 (MQ below (QV G res) args s 0 0 (Ab G)) (F0 m 36 ls [])) {l1 : Int32} {l2 : Int32} {S : St} {res : St} {H : Heap} {locs : List Loc} {ls : Array Slot}  (hd : Dy G S s H locs) (hl : lv_has ls 4 [(0, .ref (gR G 142)), (1, .int l1), (2, .int l2)]) (h : KX10_sayField_36 r36 l1 l2 S = some res) : W p l e (rmL 6 0 0) s m args below meth c H locs 0 0 (MQ below (QV G res) args s 0 0 (Ab G)) (F0 m 36 ls []) := by
  unfold KX10_sayField_36 at h
  have hx := C.1.1
  have hb := C.1.2.1
  refine lv_aload_n hx hb dX10_sayField_36 rfl (lv_at hl 0 rfl) ?_
  refine gX10_216 C hd (rfl : kd 142 = 10) dX10_sayField_37 ?_
  refine lv_if_ne (tgt := 109) hx hb dX10_sayField_40 (by decide) (fun c1 => ?_) (fun c1 => ?_)
  · rw [if_neg c1] at h
    exact sBX10_sayField_109 C hr  hd (lv_sub hl [0, 1, 2] rfl) h
  · rw [if_pos c1] at h
    refine lv_iload_n hx hb dX10_sayField_43 rfl (lv_at hl 2 rfl) ?_
    refine lv_iconst (v := 2) hx hb dX10_sayField_44 (by decide) ?_
    refine lv_icmp_lt (tgt := 56) hx hb dX10_sayField_45 (by decide) (fun c2 => ?_) (fun c2 => ?_)
    · rw [if_pos c2] at h
      exact sBX10_sayField_56 C hr hr36  hd (lv_sub hl [0, 1, 2] rfl) h
    · rw [if_neg c2] at h
      refine lv_aload_n hx hb dX10_sayField_48 rfl (lv_at hl 0 rfl) ?_
      refine gX10_190 C hd (rfl : kd 142 = 10) dX10_sayField_49 ?_
      refine lv_iconst (v := 2) hx hb dX10_sayField_52 (by decide) ?_
      refine lv_icmp_ne (tgt := 109) hx hb dX10_sayField_53 (by decide) (fun c3 => ?_) (fun c3 => ?_)
      · rw [if_neg c3] at h
        exact sBX10_sayField_109 C hr  hd (lv_sub hl [0, 1, 2] rfl) h
      · rw [if_pos c3] at h
        exact sBX10_sayField_56 C hr hr36  hd (lv_sub hl [0, 1, 2] rfl) h
def LX10_sayField_36 : Nat → Int32 → Int32 → St → Option St
  | 0 => fun _ _ _ => none
  | n + 1 => fun l1 l2 S => KX10_sayField_36 (LX10_sayField_36 n) l1 l2 S
theorem sLX10_sayField_36 (C : Cx p s m args meth c cX10_sayField 4 RX10 G) (hr : meth.sig.returnType = none) : ∀ (n : Nat) (l1 : Int32) (l2 : Int32) (S : St) (res : St) (H : Heap) (locs : List Loc) (ls : Array Slot), Dy G S s H locs → lv_has ls 4 [(0, .ref (gR G 142)), (1, .int l1), (2, .int l2)] → LX10_sayField_36 n l1 l2 S = some res → W p l e (rmL 6 0 0) s m args below meth c H locs 0 0 (MQ below (QV G res) args s 0 0 (Ab G)) (F0 m 36 ls []) := by
  intro n
  induction n with
  | zero => intro l1 l2 S res H locs ls  hd hl h; cases h
  | succ n ih =>
    intro l1 l2 S res H locs ls  hd hl h
    exact sKX10_sayField_36 C hr ih  hd hl h
def fX10_sayField  (S : St) : Option St :=
  bd (fX10_another 0 8 S) fun x1 S => (if x1 = 0 then some S else rd S 145 5 fun x4 => vl (8 + x4) fun x5 => bd (fX10_readNumber 1 99 S) fun x7 S => wr S 146 x5 x7 fun S => (LX10_sayField_36 FU x5 0 S))
set_option maxHeartbeats 4000000 in
set_option maxRecDepth 20000 in
theorem sfX10_sayField (C : Cx p s m args meth c cX10_sayField 4 RX10 G) (hr : meth.sig.returnType = none)  {S : St} {res : St} {H : Heap} {locs : List Loc} {ls : Array Slot}  (hd : Dy G S s H locs) (hl : lv_has ls 4 [(0, .ref (gR G 142))]) (h : fX10_sayField  S = some res) : W p l e (rmL 6 0 0) s m args below meth c H locs 0 0 (MQ below (QV G res) args s 0 0 (Ab G)) (F0 m 0 ls []) := by
  unfold fX10_sayField at h
  have hx := C.1.1
  have hb := C.1.2.1
  refine lv_aload_n hx hb dX10_sayField_0 rfl (lv_at hl 0 rfl) ?_
  refine lv_iconst (v := 0) hx hb dX10_sayField_1 (by decide) ?_
  refine lv_bipush (v := 8) hx hb dX10_sayField_2 (by decide) ?_
  obtain ⟨x1, S1, hc, h⟩ := bd_some h
  refine R_cVi C hd (ccX10_another l G  hc) kX10_291 rfl (by decide) (rfl : kd 142 = 10) hl.1 ⟨by decide, by decide⟩ rfl rfl (Nat.le_of_ble_eq_true rfl) dX10_sayField_4 ⟨Nat.zero_le _, Nat.zero_le _⟩ (fun H locs hd => ?_)
  generalize S1 = S at h hd
  refine lv_if_ne (tgt := 11) hx hb dX10_sayField_7 (by decide) (fun c2 => ?_) (fun c2 => ?_)
  · rw [if_neg c2] at h
    refine lv_bipush (v := 8) hx hb dX10_sayField_11 (by decide) ?_
    refine lv_aload_n hx hb dX10_sayField_13 rfl (lv_at hl 0 rfl) ?_
    refine gX10_39 C hd (rfl : kd 142 = 10) (q := 145) rfl dX10_sayField_14 (fun y3 => ?_)
    refine lv_iconst (v := 5) hx hb dX10_sayField_17 (by decide) ?_
    refine R_iald C hd y3 h dX10_sayField_18 (fun x4 h => ?_)
    refine lv_iadd hx hb dX10_sayField_19 ?_
    refine R_vl h (fun x5 h => ?_)
    refine lv_istore_n (lv' := [(1, .int x5), (0, .ref (gR G 142))]) hx hb dX10_sayField_20 rfl hl (by decide) rfl (fun ls hl => ?_)
    refine lv_aload_n hx hb dX10_sayField_21 rfl (lv_at hl 1 rfl) ?_
    refine gX10_43 C hd (rfl : kd 142 = 10) (q := 146) rfl dX10_sayField_22 (fun y6 => ?_)
    refine lv_iload_n hx hb dX10_sayField_25 rfl (lv_at hl 0 rfl) ?_
    refine lv_aload_n hx hb dX10_sayField_26 rfl (lv_at hl 1 rfl) ?_
    refine lv_iconst (v := 1) hx hb dX10_sayField_27 (by decide) ?_
    refine lv_bipush (v := 99) hx hb dX10_sayField_28 (by decide) ?_
    obtain ⟨x7, S1, hc, h⟩ := bd_some h
    refine R_cVi C hd (ccX10_readNumber l G  hc) kX10_254 rfl (by decide) (rfl : kd 142 = 10) hl.1 ⟨by decide, by decide⟩ rfl rfl (Nat.le_of_ble_eq_true rfl) dX10_sayField_30 ⟨Nat.zero_le _, Nat.zero_le _⟩ (fun H locs hd => ?_)
    generalize S1 = S at h hd
    refine R_iast C hd y6 h dX10_sayField_33 (fun S H locs hd h => ?_)
    refine lv_iconst (v := 0) hx hb dX10_sayField_34 (by decide) ?_
    refine lv_istore_n (lv' := [(2, .int 0), (1, .int x5), (0, .ref (gR G 142))]) hx hb dX10_sayField_35 rfl hl (by decide) rfl (fun ls hl => ?_)
    exact sLX10_sayField_36 C hr _ x5 0 _ _ _ _ _  hd (lv_sub hl [2, 1, 0] rfl) h
  · rw [if_pos c2] at h
    exact R_vret C hr hd h dX10_sayField_10
set_option maxRecDepth 20000 in
theorem ccX10_sayField (l : Launch) (G : Gt)  {S : St} {res : St}  (h : fX10_sayField  S = some res) : Met l yX10_sayField (wm yX10_sayField cX10_sayField 4 (none)) (rmL 6 0 0) (PcW G S [.ref (gR G 142)]) (QV G res) 0 0 (Ab G) := by
  refine Met.ofW (cc := cX10_sayField) (maxL := 4) (ret := none) (by decide) rfl ?_
  intro p e s m args below meth c s₁ B hml hv
  obtain ⟨rfl, hK, hP⟩ := hv
  have C : Cx p s m _ meth c cX10_sayField 4 RX10 G := ⟨⟨B.exec, B.bytes, hml, findClass_of_methodNamed B.named, fun w hw => atoms_spec (ws := wm yX10_sayField cX10_sayField 4 (none)) B.pre w (List.mem_cons_of_mem _ hw)⟩, B.notSynchronized, hK⟩
  have hl := lv_entry ([.ref (gR G 142)]) (n := 4) (Nat.le_of_ble_eq_true rfl)
  rw [lg_entry_eq]
  generalize (lg_sl ([.ref (gR G 142)]) ++ List.replicate (4 - (lg_sl ([.ref (gR G 142)])).length) Slot.unset).toArray = ls at hl ⊢
  exact sfX10_sayField C B.returns  ⟨hP, va_S.rf⟩ hl h
def BX10_sayPath_70 (l1 : Int32) (l2 : Int32) (l3 : Int32) (S : St) : Option St :=
  bd (fX10_readNumber 1 20 S) fun x1 S => (if (S 142 24) = 0 then wr S 149 ((l3 + (8 * l1)) + l2) x1 fun S => wr S 149 ((l3 + (8 * l2)) + l1) x1 fun S => rd S 145 6 fun x6 => wr S 145 6 (x6 + 1) fun S => some S else some S)
set_option maxHeartbeats 4000000 in
set_option maxRecDepth 20000 in
theorem sBX10_sayPath_70 (C : Cx p s m args meth c cX10_sayPath 5 RX10 G) (hr : meth.sig.returnType = none) {l1 : Int32} {l2 : Int32} {l3 : Int32} {S : St} {res : St} {H : Heap} {locs : List Loc} {ls : Array Slot}  (hd : Dy G S s H locs) (hl : lv_has ls 5 [(0, .ref (gR G 142)), (1, .int l1), (2, .int l2), (3, .int l3)]) (h : BX10_sayPath_70 l1 l2 l3 S = some res) : W p l e (rmL 7 0 0) s m args below meth c H locs 0 0 (MQ below (QV G res) args s 0 0 (Ab G)) (F0 m 70 ls []) := by
  unfold BX10_sayPath_70 at h
  have hx := C.1.1
  have hb := C.1.2.1
  refine lv_aload_n hx hb dX10_sayPath_70 rfl (lv_at hl 0 rfl) ?_
  refine lv_iconst (v := 1) hx hb dX10_sayPath_71 (by decide) ?_
  refine lv_bipush (v := 20) hx hb dX10_sayPath_72 (by decide) ?_
  obtain ⟨x1, S1, hc, h⟩ := bd_some h
  refine R_cVi C hd (ccX10_readNumber l G  hc) kX10_254 rfl (by decide) (rfl : kd 142 = 10) hl.1 ⟨by decide, by decide⟩ rfl rfl (Nat.le_of_ble_eq_true rfl) dX10_sayPath_74 ⟨Nat.zero_le _, Nat.zero_le _⟩ (fun H locs hd => ?_)
  generalize S1 = S at h hd
  refine lv_istore (lv' := [(4, .int x1), (0, .ref (gR G 142)), (1, .int l1), (2, .int l2), (3, .int l3)]) hx hb dX10_sayPath_77 hl (by decide) rfl (fun ls hl => ?_)
  refine lv_aload_n hx hb dX10_sayPath_79 rfl (lv_at hl 1 rfl) ?_
  refine gX10_216 C hd (rfl : kd 142 = 10) dX10_sayPath_80 ?_
  refine lv_if_eq (tgt := 87) hx hb dX10_sayPath_83 (by decide) (fun c2 => ?_) (fun c2 => ?_)
  · rw [if_pos c2] at h
    refine lv_aload_n hx hb dX10_sayPath_87 rfl (lv_at hl 1 rfl) ?_
    refine gX10_50 C hd (rfl : kd 142 = 10) (q := 149) rfl dX10_sayPath_88 (fun y3 => ?_)
    refine lv_iload_n hx hb dX10_sayPath_91 rfl (lv_at hl 4 rfl) ?_
    refine lv_bipush (v := 8) hx hb dX10_sayPath_92 (by decide) ?_
    refine lv_iload_n hx hb dX10_sayPath_94 rfl (lv_at hl 2 rfl) ?_
    refine lv_imul hx hb dX10_sayPath_95 ?_
    refine lv_iadd hx hb dX10_sayPath_96 ?_
    refine lv_iload_n hx hb dX10_sayPath_97 rfl (lv_at hl 3 rfl) ?_
    refine lv_iadd hx hb dX10_sayPath_98 ?_
    refine lv_iload hx hb dX10_sayPath_99 (lv_at hl 0 rfl) ?_
    refine R_iast C hd y3 h dX10_sayPath_101 (fun S H locs hd h => ?_)
    refine lv_aload_n hx hb dX10_sayPath_102 rfl (lv_at hl 1 rfl) ?_
    refine gX10_50 C hd (rfl : kd 142 = 10) (q := 149) rfl dX10_sayPath_103 (fun y4 => ?_)
    refine lv_iload_n hx hb dX10_sayPath_106 rfl (lv_at hl 4 rfl) ?_
    refine lv_bipush (v := 8) hx hb dX10_sayPath_107 (by decide) ?_
    refine lv_iload_n hx hb dX10_sayPath_109 rfl (lv_at hl 3 rfl) ?_
    refine lv_imul hx hb dX10_sayPath_110 ?_
    refine lv_iadd hx hb dX10_sayPath_111 ?_
    refine lv_iload_n hx hb dX10_sayPath_112 rfl (lv_at hl 2 rfl) ?_
    refine lv_iadd hx hb dX10_sayPath_113 ?_
    refine lv_iload hx hb dX10_sayPath_114 (lv_at hl 0 rfl) ?_
    refine R_iast C hd y4 h dX10_sayPath_116 (fun S H locs hd h => ?_)
    refine lv_aload_n hx hb dX10_sayPath_117 rfl (lv_at hl 1 rfl) ?_
    refine gX10_39 C hd (rfl : kd 142 = 10) (q := 145) rfl dX10_sayPath_118 (fun y5 => ?_)
    refine lv_bipush (v := 6) hx hb dX10_sayPath_121 (by decide) ?_
    refine lv_dup2_11 hx hb dX10_sayPath_123 rfl rfl ?_
    refine R_iald C hd y5 h dX10_sayPath_124 (fun x6 h => ?_)
    refine lv_iconst (v := 1) hx hb dX10_sayPath_125 (by decide) ?_
    refine lv_iadd hx hb dX10_sayPath_126 ?_
    refine R_iast C hd y5 h dX10_sayPath_127 (fun S H locs hd h => ?_)
    exact R_vret C hr hd h dX10_sayPath_128
  · rw [if_neg c2] at h
    exact R_vret C hr hd h dX10_sayPath_86
def BX10_sayPath_59 (l1 : Int32) (l2 : Int32) (l3 : Int32) (S : St) : Option St :=
  (if (S 142 24) = 0 then bv (fX10_stepOn  S) fun S => (BX10_sayPath_70 l1 l2 l3 S) else (BX10_sayPath_70 l1 l2 l3 S))
set_option maxHeartbeats 4000000 in
set_option maxRecDepth 20000 in
theorem sBX10_sayPath_59 (C : Cx p s m args meth c cX10_sayPath 5 RX10 G) (hr : meth.sig.returnType = none) {l1 : Int32} {l2 : Int32} {l3 : Int32} {S : St} {res : St} {H : Heap} {locs : List Loc} {ls : Array Slot}  (hd : Dy G S s H locs) (hl : lv_has ls 5 [(0, .ref (gR G 142)), (1, .int l1), (2, .int l2), (3, .int l3)]) (h : BX10_sayPath_59 l1 l2 l3 S = some res) : W p l e (rmL 7 0 0) s m args below meth c H locs 0 0 (MQ below (QV G res) args s 0 0 (Ab G)) (F0 m 59 ls []) := by
  unfold BX10_sayPath_59 at h
  have hx := C.1.1
  have hb := C.1.2.1
  refine lv_aload_n hx hb dX10_sayPath_59 rfl (lv_at hl 0 rfl) ?_
  refine gX10_216 C hd (rfl : kd 142 = 10) dX10_sayPath_60 ?_
  refine lv_if_ne (tgt := 70) hx hb dX10_sayPath_63 (by decide) (fun c1 => ?_) (fun c1 => ?_)
  · rw [if_neg c1] at h
    exact sBX10_sayPath_70 C hr  hd (lv_sub hl [0, 1, 2, 3] rfl) h
  · rw [if_pos c1] at h
    refine lv_aload_n hx hb dX10_sayPath_66 rfl (lv_at hl 0 rfl) ?_
    obtain ⟨S1, hc, h⟩ := bv_some h
    refine R_cVv C hd (ccX10_stepOn l G  hc) kX10_241 rfl (by decide) (rfl : kd 142 = 10) hl.1 ⟨by decide, by decide⟩ rfl rfl (Nat.le_of_ble_eq_true rfl) dX10_sayPath_67 ⟨Nat.zero_le _, Nat.zero_le _⟩ (fun H locs hd => ?_)
    generalize S1 = S at h hd
    exact sBX10_sayPath_70 C hr  hd (lv_sub hl [0, 1, 2, 3] rfl) h
def BX10_sayPath_54 (l1 : Int32) (l2 : Int32) (l3 : Int32) (S : St) : Option St :=
  bv (fX10_wrong 4 S) fun S => (BX10_sayPath_59 l1 l2 l3 S)
set_option maxHeartbeats 4000000 in
set_option maxRecDepth 20000 in
theorem sBX10_sayPath_54 (C : Cx p s m args meth c cX10_sayPath 5 RX10 G) (hr : meth.sig.returnType = none) {l1 : Int32} {l2 : Int32} {l3 : Int32} {S : St} {res : St} {H : Heap} {locs : List Loc} {ls : Array Slot}  (hd : Dy G S s H locs) (hl : lv_has ls 5 [(0, .ref (gR G 142)), (1, .int l1), (2, .int l2), (3, .int l3)]) (h : BX10_sayPath_54 l1 l2 l3 S = some res) : W p l e (rmL 7 0 0) s m args below meth c H locs 0 0 (MQ below (QV G res) args s 0 0 (Ab G)) (F0 m 54 ls []) := by
  unfold BX10_sayPath_54 at h
  have hx := C.1.1
  have hb := C.1.2.1
  refine lv_aload_n hx hb dX10_sayPath_54 rfl (lv_at hl 0 rfl) ?_
  refine lv_iconst (v := 4) hx hb dX10_sayPath_55 (by decide) ?_
  obtain ⟨S1, hc, h⟩ := bv_some h
  refine R_cVv C hd (ccX10_wrong l G  hc) kX10_237 rfl (by decide) (rfl : kd 142 = 10) hl.1 ⟨by decide, by decide⟩ rfl rfl (Nat.le_of_ble_eq_true rfl) dX10_sayPath_56 ⟨Nat.zero_le _, Nat.zero_le _⟩ (fun H locs hd => ?_)
  generalize S1 = S at h hd
  exact sBX10_sayPath_59 C hr  hd (lv_sub hl [0, 1, 2, 3] rfl) h
def fX10_sayPath  (S : St) : Option St :=
  bd (fX10_another 1 14 S) fun x1 S => (if x1 = 0 then some S else bd (fX10_readOne 0 S) fun x3 S => bd (fX10_oneNow 0 S) fun x4 S => (if (S 142 24) = 0 then (if x3 = x4 then (BX10_sayPath_54 x3 x4 64 S) else rd S 149 ((64 + (8 * x3)) + x4) fun x8 => (if x8 = 0 then (BX10_sayPath_59 x3 x4 64 S) else (BX10_sayPath_54 x3 x4 64 S))) else (BX10_sayPath_59 x3 x4 64 S)))
set_option maxHeartbeats 4000000 in
set_option maxRecDepth 20000 in
theorem sfX10_sayPath (C : Cx p s m args meth c cX10_sayPath 5 RX10 G) (hr : meth.sig.returnType = none)  {S : St} {res : St} {H : Heap} {locs : List Loc} {ls : Array Slot}  (hd : Dy G S s H locs) (hl : lv_has ls 5 [(0, .ref (gR G 142))]) (h : fX10_sayPath  S = some res) : W p l e (rmL 7 0 0) s m args below meth c H locs 0 0 (MQ below (QV G res) args s 0 0 (Ab G)) (F0 m 0 ls []) := by
  unfold fX10_sayPath at h
  have hx := C.1.1
  have hb := C.1.2.1
  refine lv_aload_n hx hb dX10_sayPath_0 rfl (lv_at hl 0 rfl) ?_
  refine lv_iconst (v := 1) hx hb dX10_sayPath_1 (by decide) ?_
  refine lv_bipush (v := 14) hx hb dX10_sayPath_2 (by decide) ?_
  obtain ⟨x1, S1, hc, h⟩ := bd_some h
  refine R_cVi C hd (ccX10_another l G  hc) kX10_291 rfl (by decide) (rfl : kd 142 = 10) hl.1 ⟨by decide, by decide⟩ rfl rfl (Nat.le_of_ble_eq_true rfl) dX10_sayPath_4 ⟨Nat.zero_le _, Nat.zero_le _⟩ (fun H locs hd => ?_)
  generalize S1 = S at h hd
  refine lv_if_ne (tgt := 11) hx hb dX10_sayPath_7 (by decide) (fun c2 => ?_) (fun c2 => ?_)
  · rw [if_neg c2] at h
    refine lv_aload_n hx hb dX10_sayPath_11 rfl (lv_at hl 0 rfl) ?_
    refine lv_iconst (v := 0) hx hb dX10_sayPath_12 (by decide) ?_
    obtain ⟨x3, S1, hc, h⟩ := bd_some h
    refine R_cVi C hd (ccX10_readOne l G  hc) kX10_295 rfl (by decide) (rfl : kd 142 = 10) hl.1 ⟨by decide, by decide⟩ rfl rfl (Nat.le_of_ble_eq_true rfl) dX10_sayPath_13 ⟨Nat.zero_le _, Nat.zero_le _⟩ (fun H locs hd => ?_)
    generalize S1 = S at h hd
    refine lv_istore_n (lv' := [(1, .int x3), (0, .ref (gR G 142))]) hx hb dX10_sayPath_16 rfl hl (by decide) rfl (fun ls hl => ?_)
    refine lv_aload_n hx hb dX10_sayPath_17 rfl (lv_at hl 1 rfl) ?_
    refine lv_iconst (v := 0) hx hb dX10_sayPath_18 (by decide) ?_
    obtain ⟨x4, S1, hc, h⟩ := bd_some h
    refine R_cVi C hd (ccX10_oneNow l G  hc) kX10_247 rfl (by decide) (rfl : kd 142 = 10) hl.1 ⟨by decide, by decide⟩ rfl rfl (Nat.le_of_ble_eq_true rfl) dX10_sayPath_19 ⟨Nat.zero_le _, Nat.zero_le _⟩ (fun H locs hd => ?_)
    generalize S1 = S at h hd
    refine lv_istore_n (lv' := [(2, .int x4), (1, .int x3), (0, .ref (gR G 142))]) hx hb dX10_sayPath_22 rfl hl (by decide) rfl (fun ls hl => ?_)
    refine lv_bipush (v := 64) hx hb dX10_sayPath_23 (by decide) ?_
    refine lv_istore_n (lv' := [(3, .int 64), (2, .int x4), (1, .int x3), (0, .ref (gR G 142))]) hx hb dX10_sayPath_25 rfl hl (by decide) rfl (fun ls hl => ?_)
    refine lv_aload_n hx hb dX10_sayPath_26 rfl (lv_at hl 3 rfl) ?_
    refine gX10_216 C hd (rfl : kd 142 = 10) dX10_sayPath_27 ?_
    refine lv_if_ne (tgt := 59) hx hb dX10_sayPath_30 (by decide) (fun c5 => ?_) (fun c5 => ?_)
    · rw [if_neg c5] at h
      exact sBX10_sayPath_59 C hr  hd (lv_sub hl [3, 2, 1, 0] rfl) h
    · rw [if_pos c5] at h
      refine lv_iload_n hx hb dX10_sayPath_33 rfl (lv_at hl 2 rfl) ?_
      refine lv_iload_n hx hb dX10_sayPath_34 rfl (lv_at hl 1 rfl) ?_
      refine lv_icmp_eq (tgt := 54) hx hb dX10_sayPath_35 (by decide) (fun c6 => ?_) (fun c6 => ?_)
      · rw [if_pos c6] at h
        exact sBX10_sayPath_54 C hr  hd (lv_sub hl [3, 2, 1, 0] rfl) h
      · rw [if_neg c6] at h
        refine lv_aload_n hx hb dX10_sayPath_38 rfl (lv_at hl 3 rfl) ?_
        refine gX10_50 C hd (rfl : kd 142 = 10) (q := 149) rfl dX10_sayPath_39 (fun y7 => ?_)
        refine lv_iload_n hx hb dX10_sayPath_42 rfl (lv_at hl 0 rfl) ?_
        refine lv_bipush (v := 8) hx hb dX10_sayPath_43 (by decide) ?_
        refine lv_iload_n hx hb dX10_sayPath_45 rfl (lv_at hl 2 rfl) ?_
        refine lv_imul hx hb dX10_sayPath_46 ?_
        refine lv_iadd hx hb dX10_sayPath_47 ?_
        refine lv_iload_n hx hb dX10_sayPath_48 rfl (lv_at hl 1 rfl) ?_
        refine lv_iadd hx hb dX10_sayPath_49 ?_
        refine R_iald C hd y7 h dX10_sayPath_50 (fun x8 h => ?_)
        refine lv_if_eq (tgt := 59) hx hb dX10_sayPath_51 (by decide) (fun c9 => ?_) (fun c9 => ?_)
        · rw [if_pos c9] at h
          exact sBX10_sayPath_59 C hr  hd (lv_sub hl [3, 2, 1, 0] rfl) h
        · rw [if_neg c9] at h
          exact sBX10_sayPath_54 C hr  hd (lv_sub hl [3, 2, 1, 0] rfl) h
  · rw [if_pos c2] at h
    exact R_vret C hr hd h dX10_sayPath_10
set_option maxRecDepth 20000 in
theorem ccX10_sayPath (l : Launch) (G : Gt)  {S : St} {res : St}  (h : fX10_sayPath  S = some res) : Met l yX10_sayPath (wm yX10_sayPath cX10_sayPath 5 (none)) (rmL 7 0 0) (PcW G S [.ref (gR G 142)]) (QV G res) 0 0 (Ab G) := by
  refine Met.ofW (cc := cX10_sayPath) (maxL := 5) (ret := none) (by decide) rfl ?_
  intro p e s m args below meth c s₁ B hml hv
  obtain ⟨rfl, hK, hP⟩ := hv
  have C : Cx p s m _ meth c cX10_sayPath 5 RX10 G := ⟨⟨B.exec, B.bytes, hml, findClass_of_methodNamed B.named, fun w hw => atoms_spec (ws := wm yX10_sayPath cX10_sayPath 5 (none)) B.pre w (List.mem_cons_of_mem _ hw)⟩, B.notSynchronized, hK⟩
  have hl := lv_entry ([.ref (gR G 142)]) (n := 5) (Nat.le_of_ble_eq_true rfl)
  rw [lg_entry_eq]
  generalize (lg_sl ([.ref (gR G 142)]) ++ List.replicate (5 - (lg_sl ([.ref (gR G 142)])).length) Slot.unset).toArray = ls at hl ⊢
  exact sfX10_sayPath C B.returns  ⟨hP, va_S.rf⟩ hl h
def BX10_saySinger_94 (l1 : Int32) (l2 : Int32) (S : St) : Option St :=
  (if (S 142 24) = 0 then wr S 151 l1 l2 fun S => rd S 150 (6 * l1) fun x5 => wr S 152 l1 ((1 : Int32) <<< (x5 &&& 31)) fun S => rd S 145 7 fun x7 => wr S 145 7 (x7 + 1) fun S => some S else some S)
set_option maxHeartbeats 4000000 in
set_option maxRecDepth 20000 in
theorem sBX10_saySinger_94 (C : Cx p s m args meth c cX10_saySinger 4 RX10 G) (hr : meth.sig.returnType = none) {l1 : Int32} {l2 : Int32} {S : St} {res : St} {H : Heap} {locs : List Loc} {ls : Array Slot}  (hd : Dy G S s H locs) (hl : lv_has ls 4 [(0, .ref (gR G 142)), (1, .int l1), (2, .int l2)]) (h : BX10_saySinger_94 l1 l2 S = some res) : W p l e (rmL 7 0 0) s m args below meth c H locs 0 0 (MQ below (QV G res) args s 0 0 (Ab G)) (F0 m 94 ls []) := by
  unfold BX10_saySinger_94 at h
  have hx := C.1.1
  have hb := C.1.2.1
  refine lv_aload_n hx hb dX10_saySinger_94 rfl (lv_at hl 0 rfl) ?_
  refine gX10_216 C hd (rfl : kd 142 = 10) dX10_saySinger_95 ?_
  refine lv_if_eq (tgt := 102) hx hb dX10_saySinger_98 (by decide) (fun c1 => ?_) (fun c1 => ?_)
  · rw [if_pos c1] at h
    refine lv_aload_n hx hb dX10_saySinger_102 rfl (lv_at hl 0 rfl) ?_
    refine gX10_56 C hd (rfl : kd 142 = 10) (q := 151) rfl dX10_saySinger_103 (fun y2 => ?_)
    refine lv_iload_n hx hb dX10_saySinger_106 rfl (lv_at hl 1 rfl) ?_
    refine lv_iload_n hx hb dX10_saySinger_107 rfl (lv_at hl 2 rfl) ?_
    refine R_iast C hd y2 h dX10_saySinger_108 (fun S H locs hd h => ?_)
    refine lv_aload_n hx hb dX10_saySinger_109 rfl (lv_at hl 0 rfl) ?_
    refine gX10_59 C hd (rfl : kd 142 = 10) (q := 152) rfl dX10_saySinger_110 (fun y3 => ?_)
    refine lv_iload_n hx hb dX10_saySinger_113 rfl (lv_at hl 1 rfl) ?_
    refine lv_iconst (v := 1) hx hb dX10_saySinger_114 (by decide) ?_
    refine lv_aload_n hx hb dX10_saySinger_115 rfl (lv_at hl 0 rfl) ?_
    refine gX10_53 C hd (rfl : kd 142 = 10) (q := 150) rfl dX10_saySinger_116 (fun y4 => ?_)
    refine lv_bipush (v := 6) hx hb dX10_saySinger_119 (by decide) ?_
    refine lv_iload_n hx hb dX10_saySinger_121 rfl (lv_at hl 1 rfl) ?_
    refine lv_imul hx hb dX10_saySinger_122 ?_
    refine R_iald C hd y4 h dX10_saySinger_123 (fun x5 h => ?_)
    refine lv_ishl hx hb dX10_saySinger_124 ?_
    refine R_iast C hd y3 h dX10_saySinger_125 (fun S H locs hd h => ?_)
    refine lv_aload_n hx hb dX10_saySinger_126 rfl (lv_at hl 0 rfl) ?_
    refine gX10_39 C hd (rfl : kd 142 = 10) (q := 145) rfl dX10_saySinger_127 (fun y6 => ?_)
    refine lv_bipush (v := 7) hx hb dX10_saySinger_130 (by decide) ?_
    refine lv_dup2_11 hx hb dX10_saySinger_132 rfl rfl ?_
    refine R_iald C hd y6 h dX10_saySinger_133 (fun x7 h => ?_)
    refine lv_iconst (v := 1) hx hb dX10_saySinger_134 (by decide) ?_
    refine lv_iadd hx hb dX10_saySinger_135 ?_
    refine R_iast C hd y6 h dX10_saySinger_136 (fun S H locs hd h => ?_)
    exact R_vret C hr hd h dX10_saySinger_137
  · rw [if_neg c1] at h
    exact R_vret C hr hd h dX10_saySinger_101
def BX10_saySinger_62 (r24 : Int32 → Int32 → St → Option St) (l1 : Int32) (l2 : Int32) (S : St) : Option St :=
  bd (fX10_readOne 0 S) fun x1 S => (if (S 142 24) = 0 then wr S 150 ((6 * l1) + l2) x1 fun S => vl (l2 + 1) fun x4 => (r24 l1 x4 S) else some S)
set_option maxHeartbeats 4000000 in
set_option maxRecDepth 20000 in
theorem sBX10_saySinger_62 (C : Cx p s m args meth c cX10_saySinger 4 RX10 G) (hr : meth.sig.returnType = none) {r24 : Int32 → Int32 → St → Option St} (hr24 : ∀ (l1 : Int32) (l2 : Int32) (S : St) (res : St) (H : Heap) (locs : List Loc) (ls : Array Slot), Dy G S s H locs → lv_has ls 4 [(0, .ref (gR G 142)), (1, .int l1), (2, .int l2)] → r24 l1 l2 S = some res → W p l e (rmL 7 0 0) s m args below meth c H locs 0 0 (MQ below (QV G res) args s 0 0 (Ab G)) (F0 m 24 ls [])) {l1 : Int32} {l2 : Int32} {S : St} {res : St} {H : Heap} {locs : List Loc} {ls : Array Slot}  (hd : Dy G S s H locs) (hl : lv_has ls 4 [(0, .ref (gR G 142)), (1, .int l1), (2, .int l2)]) (h : BX10_saySinger_62 r24 l1 l2 S = some res) : W p l e (rmL 7 0 0) s m args below meth c H locs 0 0 (MQ below (QV G res) args s 0 0 (Ab G)) (F0 m 62 ls []) := by
  unfold BX10_saySinger_62 at h
  have hx := C.1.1
  have hb := C.1.2.1
  refine lv_aload_n hx hb dX10_saySinger_62 rfl (lv_at hl 0 rfl) ?_
  refine lv_iconst (v := 0) hx hb dX10_saySinger_63 (by decide) ?_
  obtain ⟨x1, S1, hc, h⟩ := bd_some h
  refine R_cVi C hd (ccX10_readOne l G  hc) kX10_295 rfl (by decide) (rfl : kd 142 = 10) hl.1 ⟨by decide, by decide⟩ rfl rfl (Nat.le_of_ble_eq_true rfl) dX10_saySinger_64 ⟨Nat.zero_le _, Nat.zero_le _⟩ (fun H locs hd => ?_)
  generalize S1 = S at h hd
  refine lv_istore_n (lv' := [(3, .int x1), (0, .ref (gR G 142)), (1, .int l1), (2, .int l2)]) hx hb dX10_saySinger_67 rfl hl (by decide) rfl (fun ls hl => ?_)
  refine lv_aload_n hx hb dX10_saySinger_68 rfl (lv_at hl 1 rfl) ?_
  refine gX10_216 C hd (rfl : kd 142 = 10) dX10_saySinger_69 ?_
  refine lv_if_eq (tgt := 76) hx hb dX10_saySinger_72 (by decide) (fun c2 => ?_) (fun c2 => ?_)
  · rw [if_pos c2] at h
    refine lv_aload_n hx hb dX10_saySinger_76 rfl (lv_at hl 1 rfl) ?_
    refine gX10_53 C hd (rfl : kd 142 = 10) (q := 150) rfl dX10_saySinger_77 (fun y3 => ?_)
    refine lv_bipush (v := 6) hx hb dX10_saySinger_80 (by decide) ?_
    refine lv_iload_n hx hb dX10_saySinger_82 rfl (lv_at hl 2 rfl) ?_
    refine lv_imul hx hb dX10_saySinger_83 ?_
    refine lv_iload_n hx hb dX10_saySinger_84 rfl (lv_at hl 3 rfl) ?_
    refine lv_iadd hx hb dX10_saySinger_85 ?_
    refine lv_iload_n hx hb dX10_saySinger_86 rfl (lv_at hl 0 rfl) ?_
    refine R_iast C hd y3 h dX10_saySinger_87 (fun S H locs hd h => ?_)
    refine R_vi h (fun x4 ex4 h => ?_)
    refine lv_iinc (v := x4) (lv' := [(2, .int x4), (3, .int x1), (0, .ref (gR G 142)), (1, .int l1)]) hx hb dX10_saySinger_88 hl (k := 3) rfl (by rw [ex4]; rfl) (by decide) rfl (fun ls hl => ?_)
    refine lv_goto (tgt := 24) hx hb dX10_saySinger_91 (by decide) ?_
    exact hr24 l1 x4 _ _ _ _ _  hd (lv_sub hl [2, 3, 0] rfl) h
  · rw [if_neg c2] at h
    exact R_vret C hr hd h dX10_saySinger_75
def BX10_saySinger_43 (r24 : Int32 → Int32 → St → Option St) (l1 : Int32) (l2 : Int32) (S : St) : Option St :=
  (if (S 142 20) = 2 then (if l2 = 6 then bv (fX10_wrong 2 S) fun S => (BX10_saySinger_62 r24 l1 l2 S) else (BX10_saySinger_62 r24 l1 l2 S)) else (BX10_saySinger_62 r24 l1 l2 S))
set_option maxHeartbeats 4000000 in
set_option maxRecDepth 20000 in
theorem sBX10_saySinger_43 (C : Cx p s m args meth c cX10_saySinger 4 RX10 G) (hr : meth.sig.returnType = none) {r24 : Int32 → Int32 → St → Option St} (hr24 : ∀ (l1 : Int32) (l2 : Int32) (S : St) (res : St) (H : Heap) (locs : List Loc) (ls : Array Slot), Dy G S s H locs → lv_has ls 4 [(0, .ref (gR G 142)), (1, .int l1), (2, .int l2)] → r24 l1 l2 S = some res → W p l e (rmL 7 0 0) s m args below meth c H locs 0 0 (MQ below (QV G res) args s 0 0 (Ab G)) (F0 m 24 ls [])) {l1 : Int32} {l2 : Int32} {S : St} {res : St} {H : Heap} {locs : List Loc} {ls : Array Slot}  (hd : Dy G S s H locs) (hl : lv_has ls 4 [(0, .ref (gR G 142)), (1, .int l1), (2, .int l2)]) (h : BX10_saySinger_43 r24 l1 l2 S = some res) : W p l e (rmL 7 0 0) s m args below meth c H locs 0 0 (MQ below (QV G res) args s 0 0 (Ab G)) (F0 m 43 ls []) := by
  unfold BX10_saySinger_43 at h
  have hx := C.1.1
  have hb := C.1.2.1
  refine lv_aload_n hx hb dX10_saySinger_43 rfl (lv_at hl 0 rfl) ?_
  refine gX10_190 C hd (rfl : kd 142 = 10) dX10_saySinger_44 ?_
  refine lv_iconst (v := 2) hx hb dX10_saySinger_47 (by decide) ?_
  refine lv_icmp_ne (tgt := 62) hx hb dX10_saySinger_48 (by decide) (fun c1 => ?_) (fun c1 => ?_)
  · rw [if_neg c1] at h
    exact sBX10_saySinger_62 C hr hr24  hd (lv_sub hl [0, 1, 2] rfl) h
  · rw [if_pos c1] at h
    refine lv_iload_n hx hb dX10_saySinger_51 rfl (lv_at hl 2 rfl) ?_
    refine lv_bipush (v := 6) hx hb dX10_saySinger_52 (by decide) ?_
    refine lv_icmp_ne (tgt := 62) hx hb dX10_saySinger_54 (by decide) (fun c2 => ?_) (fun c2 => ?_)
    · rw [if_neg c2] at h
      exact sBX10_saySinger_62 C hr hr24  hd (lv_sub hl [0, 1, 2] rfl) h
    · rw [if_pos c2] at h
      refine lv_aload_n hx hb dX10_saySinger_57 rfl (lv_at hl 0 rfl) ?_
      refine lv_iconst (v := 2) hx hb dX10_saySinger_58 (by decide) ?_
      obtain ⟨S1, hc, h⟩ := bv_some h
      refine R_cVv C hd (ccX10_wrong l G  hc) kX10_237 rfl (by decide) (rfl : kd 142 = 10) hl.1 ⟨by decide, by decide⟩ rfl rfl (Nat.le_of_ble_eq_true rfl) dX10_saySinger_59 ⟨Nat.zero_le _, Nat.zero_le _⟩ (fun H locs hd => ?_)
      generalize S1 = S at h hd
      exact sBX10_saySinger_62 C hr hr24  hd (lv_sub hl [0, 1, 2] rfl) h
def KX10_saySinger_24 (r24 : Int32 → Int32 → St → Option St) (l1 : Int32) (l2 : Int32) (S : St) : Option St :=
  (if (S 142 24) = 0 then (if l2 = 0 then (BX10_saySinger_43 r24 l1 l2 S) else (if (S 142 20) = 2 then (BX10_saySinger_43 r24 l1 l2 S) else (BX10_saySinger_94 l1 l2 S))) else (BX10_saySinger_94 l1 l2 S))
set_option maxHeartbeats 4000000 in
set_option maxRecDepth 20000 in
theorem sKX10_saySinger_24 (C : Cx p s m args meth c cX10_saySinger 4 RX10 G) (hr : meth.sig.returnType = none) {r24 : Int32 → Int32 → St → Option St} (hr24 : ∀ (l1 : Int32) (l2 : Int32) (S : St) (res : St) (H : Heap) (locs : List Loc) (ls : Array Slot), Dy G S s H locs → lv_has ls 4 [(0, .ref (gR G 142)), (1, .int l1), (2, .int l2)] → r24 l1 l2 S = some res → W p l e (rmL 7 0 0) s m args below meth c H locs 0 0 (MQ below (QV G res) args s 0 0 (Ab G)) (F0 m 24 ls [])) {l1 : Int32} {l2 : Int32} {S : St} {res : St} {H : Heap} {locs : List Loc} {ls : Array Slot}  (hd : Dy G S s H locs) (hl : lv_has ls 4 [(0, .ref (gR G 142)), (1, .int l1), (2, .int l2)]) (h : KX10_saySinger_24 r24 l1 l2 S = some res) : W p l e (rmL 7 0 0) s m args below meth c H locs 0 0 (MQ below (QV G res) args s 0 0 (Ab G)) (F0 m 24 ls []) := by
  unfold KX10_saySinger_24 at h
  have hx := C.1.1
  have hb := C.1.2.1
  refine lv_aload_n hx hb dX10_saySinger_24 rfl (lv_at hl 0 rfl) ?_
  refine gX10_216 C hd (rfl : kd 142 = 10) dX10_saySinger_25 ?_
  refine lv_if_ne (tgt := 94) hx hb dX10_saySinger_28 (by decide) (fun c1 => ?_) (fun c1 => ?_)
  · rw [if_neg c1] at h
    exact sBX10_saySinger_94 C hr  hd (lv_sub hl [0, 1, 2] rfl) h
  · rw [if_pos c1] at h
    refine lv_iload_n hx hb dX10_saySinger_31 rfl (lv_at hl 2 rfl) ?_
    refine lv_if_eq (tgt := 43) hx hb dX10_saySinger_32 (by decide) (fun c2 => ?_) (fun c2 => ?_)
    · rw [if_pos c2] at h
      exact sBX10_saySinger_43 C hr hr24  hd (lv_sub hl [0, 1, 2] rfl) h
    · rw [if_neg c2] at h
      refine lv_aload_n hx hb dX10_saySinger_35 rfl (lv_at hl 0 rfl) ?_
      refine gX10_190 C hd (rfl : kd 142 = 10) dX10_saySinger_36 ?_
      refine lv_iconst (v := 2) hx hb dX10_saySinger_39 (by decide) ?_
      refine lv_icmp_ne (tgt := 94) hx hb dX10_saySinger_40 (by decide) (fun c3 => ?_) (fun c3 => ?_)
      · rw [if_neg c3] at h
        exact sBX10_saySinger_94 C hr  hd (lv_sub hl [0, 1, 2] rfl) h
      · rw [if_pos c3] at h
        exact sBX10_saySinger_43 C hr hr24  hd (lv_sub hl [0, 1, 2] rfl) h
def LX10_saySinger_24 : Nat → Int32 → Int32 → St → Option St
  | 0 => fun _ _ _ => none
  | n + 1 => fun l1 l2 S => KX10_saySinger_24 (LX10_saySinger_24 n) l1 l2 S
theorem sLX10_saySinger_24 (C : Cx p s m args meth c cX10_saySinger 4 RX10 G) (hr : meth.sig.returnType = none) : ∀ (n : Nat) (l1 : Int32) (l2 : Int32) (S : St) (res : St) (H : Heap) (locs : List Loc) (ls : Array Slot), Dy G S s H locs → lv_has ls 4 [(0, .ref (gR G 142)), (1, .int l1), (2, .int l2)] → LX10_saySinger_24 n l1 l2 S = some res → W p l e (rmL 7 0 0) s m args below meth c H locs 0 0 (MQ below (QV G res) args s 0 0 (Ab G)) (F0 m 24 ls []) := by
  intro n
  induction n with
  | zero => intro l1 l2 S res H locs ls  hd hl h; cases h
  | succ n ih =>
    intro l1 l2 S res H locs ls  hd hl h
    exact sKX10_saySinger_24 C hr ih  hd hl h
def fX10_saySinger  (S : St) : Option St :=
  bd (fX10_another 2 6 S) fun x1 S => (if x1 = 0 then some S else rd S 145 7 fun x4 => vl (6 + x4) fun x5 => (LX10_saySinger_24 FU x5 0 S))
set_option maxHeartbeats 4000000 in
set_option maxRecDepth 20000 in
theorem sfX10_saySinger (C : Cx p s m args meth c cX10_saySinger 4 RX10 G) (hr : meth.sig.returnType = none)  {S : St} {res : St} {H : Heap} {locs : List Loc} {ls : Array Slot}  (hd : Dy G S s H locs) (hl : lv_has ls 4 [(0, .ref (gR G 142))]) (h : fX10_saySinger  S = some res) : W p l e (rmL 7 0 0) s m args below meth c H locs 0 0 (MQ below (QV G res) args s 0 0 (Ab G)) (F0 m 0 ls []) := by
  unfold fX10_saySinger at h
  have hx := C.1.1
  have hb := C.1.2.1
  refine lv_aload_n hx hb dX10_saySinger_0 rfl (lv_at hl 0 rfl) ?_
  refine lv_iconst (v := 2) hx hb dX10_saySinger_1 (by decide) ?_
  refine lv_bipush (v := 6) hx hb dX10_saySinger_2 (by decide) ?_
  obtain ⟨x1, S1, hc, h⟩ := bd_some h
  refine R_cVi C hd (ccX10_another l G  hc) kX10_291 rfl (by decide) (rfl : kd 142 = 10) hl.1 ⟨by decide, by decide⟩ rfl rfl (Nat.le_of_ble_eq_true rfl) dX10_saySinger_4 ⟨Nat.zero_le _, Nat.zero_le _⟩ (fun H locs hd => ?_)
  generalize S1 = S at h hd
  refine lv_if_ne (tgt := 11) hx hb dX10_saySinger_7 (by decide) (fun c2 => ?_) (fun c2 => ?_)
  · rw [if_neg c2] at h
    refine lv_bipush (v := 6) hx hb dX10_saySinger_11 (by decide) ?_
    refine lv_aload_n hx hb dX10_saySinger_13 rfl (lv_at hl 0 rfl) ?_
    refine gX10_39 C hd (rfl : kd 142 = 10) (q := 145) rfl dX10_saySinger_14 (fun y3 => ?_)
    refine lv_bipush (v := 7) hx hb dX10_saySinger_17 (by decide) ?_
    refine R_iald C hd y3 h dX10_saySinger_19 (fun x4 h => ?_)
    refine lv_iadd hx hb dX10_saySinger_20 ?_
    refine R_vl h (fun x5 h => ?_)
    refine lv_istore_n (lv' := [(1, .int x5), (0, .ref (gR G 142))]) hx hb dX10_saySinger_21 rfl hl (by decide) rfl (fun ls hl => ?_)
    refine lv_iconst (v := 0) hx hb dX10_saySinger_22 (by decide) ?_
    refine lv_istore_n (lv' := [(2, .int 0), (1, .int x5), (0, .ref (gR G 142))]) hx hb dX10_saySinger_23 rfl hl (by decide) rfl (fun ls hl => ?_)
    exact sLX10_saySinger_24 C hr _ x5 0 _ _ _ _ _  hd (lv_sub hl [2, 1, 0] rfl) h
  · rw [if_pos c2] at h
    exact R_vret C hr hd h dX10_saySinger_10
set_option maxRecDepth 20000 in
theorem ccX10_saySinger (l : Launch) (G : Gt)  {S : St} {res : St}  (h : fX10_saySinger  S = some res) : Met l yX10_saySinger (wm yX10_saySinger cX10_saySinger 4 (none)) (rmL 7 0 0) (PcW G S [.ref (gR G 142)]) (QV G res) 0 0 (Ab G) := by
  refine Met.ofW (cc := cX10_saySinger) (maxL := 4) (ret := none) (by decide) rfl ?_
  intro p e s m args below meth c s₁ B hml hv
  obtain ⟨rfl, hK, hP⟩ := hv
  have C : Cx p s m _ meth c cX10_saySinger 4 RX10 G := ⟨⟨B.exec, B.bytes, hml, findClass_of_methodNamed B.named, fun w hw => atoms_spec (ws := wm yX10_saySinger cX10_saySinger 4 (none)) B.pre w (List.mem_cons_of_mem _ hw)⟩, B.notSynchronized, hK⟩
  have hl := lv_entry ([.ref (gR G 142)]) (n := 4) (Nat.le_of_ble_eq_true rfl)
  rw [lg_entry_eq]
  generalize (lg_sl ([.ref (gR G 142)]) ++ List.replicate (4 - (lg_sl ([.ref (gR G 142)])).length) Slot.unset).toArray = ls at hl ⊢
  exact sfX10_saySinger C B.returns  ⟨hP, va_S.rf⟩ hl h
def BX10_sayKnows_51 (l1 : Int32) (l2 : Int32) (S : St) : Option St :=
  (if (S 142 24) = 0 then bv (fX10_stepOn  S) fun S => vl (6 + l1) fun x3 => rd S 152 x3 fun x4 => wr S 152 x3 (x4 ||| ((1 : Int32) <<< (l2 &&& 31))) fun S => some S else some S)
set_option maxHeartbeats 4000000 in
set_option maxRecDepth 20000 in
theorem sBX10_sayKnows_51 (C : Cx p s m args meth c cX10_sayKnows 3 RX10 G) (hr : meth.sig.returnType = none) {l1 : Int32} {l2 : Int32} {S : St} {res : St} {H : Heap} {locs : List Loc} {ls : Array Slot}  (hd : Dy G S s H locs) (hl : lv_has ls 3 [(0, .ref (gR G 142)), (1, .int l1), (2, .int l2)]) (h : BX10_sayKnows_51 l1 l2 S = some res) : W p l e (rmL 7 0 0) s m args below meth c H locs 0 0 (MQ below (QV G res) args s 0 0 (Ab G)) (F0 m 51 ls []) := by
  unfold BX10_sayKnows_51 at h
  have hx := C.1.1
  have hb := C.1.2.1
  refine lv_aload_n hx hb dX10_sayKnows_51 rfl (lv_at hl 0 rfl) ?_
  refine gX10_216 C hd (rfl : kd 142 = 10) dX10_sayKnows_52 ?_
  refine lv_if_eq (tgt := 59) hx hb dX10_sayKnows_55 (by decide) (fun c1 => ?_) (fun c1 => ?_)
  · rw [if_pos c1] at h
    refine lv_aload_n hx hb dX10_sayKnows_59 rfl (lv_at hl 0 rfl) ?_
    obtain ⟨S1, hc, h⟩ := bv_some h
    refine R_cVv C hd (ccX10_stepOn l G  hc) kX10_241 rfl (by decide) (rfl : kd 142 = 10) hl.1 ⟨by decide, by decide⟩ rfl rfl (Nat.le_of_ble_eq_true rfl) dX10_sayKnows_60 ⟨Nat.zero_le _, Nat.zero_le _⟩ (fun H locs hd => ?_)
    generalize S1 = S at h hd
    refine lv_aload_n hx hb dX10_sayKnows_63 rfl (lv_at hl 0 rfl) ?_
    refine gX10_59 C hd (rfl : kd 142 = 10) (q := 152) rfl dX10_sayKnows_64 (fun y2 => ?_)
    refine lv_bipush (v := 6) hx hb dX10_sayKnows_67 (by decide) ?_
    refine lv_iload_n hx hb dX10_sayKnows_69 rfl (lv_at hl 1 rfl) ?_
    refine lv_iadd hx hb dX10_sayKnows_70 ?_
    refine R_vl h (fun x3 h => ?_)
    refine lv_dup2_11 hx hb dX10_sayKnows_71 rfl rfl ?_
    refine R_iald C hd y2 h dX10_sayKnows_72 (fun x4 h => ?_)
    refine lv_iconst (v := 1) hx hb dX10_sayKnows_73 (by decide) ?_
    refine lv_iload_n hx hb dX10_sayKnows_74 rfl (lv_at hl 2 rfl) ?_
    refine lv_ishl hx hb dX10_sayKnows_75 ?_
    refine lv_ior hx hb dX10_sayKnows_76 ?_
    refine R_iast C hd y2 h dX10_sayKnows_77 (fun S H locs hd h => ?_)
    exact R_vret C hr hd h dX10_sayKnows_78
  · rw [if_neg c1] at h
    exact R_vret C hr hd h dX10_sayKnows_58
def BX10_sayKnows_11  (S : St) : Option St :=
  bd (fX10_readOne 2 S) fun x1 S => bd (fX10_oneNow 0 S) fun x2 S => (if (S 142 24) = 0 then rd S 152 (6 + x1) fun x5 => bd (fX10_isOf x5 x2 S) fun x6 S => (if x6 = 0 then (BX10_sayKnows_51 x1 x2 S) else bv (fX10_wrong 4 S) fun S => (BX10_sayKnows_51 x1 x2 S)) else (BX10_sayKnows_51 x1 x2 S))
set_option maxHeartbeats 4000000 in
set_option maxRecDepth 20000 in
theorem sBX10_sayKnows_11 (C : Cx p s m args meth c cX10_sayKnows 3 RX10 G) (hr : meth.sig.returnType = none)  {S : St} {res : St} {H : Heap} {locs : List Loc} {ls : Array Slot}  (hd : Dy G S s H locs) (hl : lv_has ls 3 [(0, .ref (gR G 142))]) (h : BX10_sayKnows_11  S = some res) : W p l e (rmL 7 0 0) s m args below meth c H locs 0 0 (MQ below (QV G res) args s 0 0 (Ab G)) (F0 m 11 ls []) := by
  unfold BX10_sayKnows_11 at h
  have hx := C.1.1
  have hb := C.1.2.1
  refine lv_aload_n hx hb dX10_sayKnows_11 rfl (lv_at hl 0 rfl) ?_
  refine lv_iconst (v := 2) hx hb dX10_sayKnows_12 (by decide) ?_
  obtain ⟨x1, S1, hc, h⟩ := bd_some h
  refine R_cVi C hd (ccX10_readOne l G  hc) kX10_295 rfl (by decide) (rfl : kd 142 = 10) hl.1 ⟨by decide, by decide⟩ rfl rfl (Nat.le_of_ble_eq_true rfl) dX10_sayKnows_13 ⟨Nat.zero_le _, Nat.zero_le _⟩ (fun H locs hd => ?_)
  generalize S1 = S at h hd
  refine lv_istore_n (lv' := [(1, .int x1), (0, .ref (gR G 142))]) hx hb dX10_sayKnows_16 rfl hl (by decide) rfl (fun ls hl => ?_)
  refine lv_aload_n hx hb dX10_sayKnows_17 rfl (lv_at hl 1 rfl) ?_
  refine lv_iconst (v := 0) hx hb dX10_sayKnows_18 (by decide) ?_
  obtain ⟨x2, S1, hc, h⟩ := bd_some h
  refine R_cVi C hd (ccX10_oneNow l G  hc) kX10_247 rfl (by decide) (rfl : kd 142 = 10) hl.1 ⟨by decide, by decide⟩ rfl rfl (Nat.le_of_ble_eq_true rfl) dX10_sayKnows_19 ⟨Nat.zero_le _, Nat.zero_le _⟩ (fun H locs hd => ?_)
  generalize S1 = S at h hd
  refine lv_istore_n (lv' := [(2, .int x2), (1, .int x1), (0, .ref (gR G 142))]) hx hb dX10_sayKnows_22 rfl hl (by decide) rfl (fun ls hl => ?_)
  refine lv_aload_n hx hb dX10_sayKnows_23 rfl (lv_at hl 2 rfl) ?_
  refine gX10_216 C hd (rfl : kd 142 = 10) dX10_sayKnows_24 ?_
  refine lv_if_ne (tgt := 51) hx hb dX10_sayKnows_27 (by decide) (fun c3 => ?_) (fun c3 => ?_)
  · rw [if_neg c3] at h
    exact sBX10_sayKnows_51 C hr  hd (lv_sub hl [2, 1, 0] rfl) h
  · rw [if_pos c3] at h
    refine lv_aload_n hx hb dX10_sayKnows_30 rfl (lv_at hl 2 rfl) ?_
    refine gX10_59 C hd (rfl : kd 142 = 10) (q := 152) rfl dX10_sayKnows_31 (fun y4 => ?_)
    refine lv_bipush (v := 6) hx hb dX10_sayKnows_34 (by decide) ?_
    refine lv_iload_n hx hb dX10_sayKnows_36 rfl (lv_at hl 1 rfl) ?_
    refine lv_iadd hx hb dX10_sayKnows_37 ?_
    refine R_iald C hd y4 h dX10_sayKnows_38 (fun x5 h => ?_)
    refine lv_iload_n hx hb dX10_sayKnows_39 rfl (lv_at hl 0 rfl) ?_
    obtain ⟨x6, S1, hc, h⟩ := bd_some h
    refine R_cSi C hd (ccX10_isOf l G  hc) kX10_298  hl.1 ⟨by decide, by decide⟩ rfl rfl (Nat.le_of_ble_eq_true rfl) dX10_sayKnows_40 ⟨Nat.zero_le _, Nat.zero_le _⟩ (fun H locs hd => ?_)
    generalize S1 = S at h hd
    refine lv_if_eq (tgt := 51) hx hb dX10_sayKnows_43 (by decide) (fun c7 => ?_) (fun c7 => ?_)
    · rw [if_pos c7] at h
      exact sBX10_sayKnows_51 C hr  hd (lv_sub hl [2, 1, 0] rfl) h
    · rw [if_neg c7] at h
      refine lv_aload_n hx hb dX10_sayKnows_46 rfl (lv_at hl 2 rfl) ?_
      refine lv_iconst (v := 4) hx hb dX10_sayKnows_47 (by decide) ?_
      obtain ⟨S1, hc, h⟩ := bv_some h
      refine R_cVv C hd (ccX10_wrong l G  hc) kX10_237 rfl (by decide) (rfl : kd 142 = 10) hl.1 ⟨by decide, by decide⟩ rfl rfl (Nat.le_of_ble_eq_true rfl) dX10_sayKnows_48 ⟨Nat.zero_le _, Nat.zero_le _⟩ (fun H locs hd => ?_)
      generalize S1 = S at h hd
      exact sBX10_sayKnows_51 C hr  hd (lv_sub hl [2, 1, 0] rfl) h
def fX10_sayKnows  (S : St) : Option St :=
  (if (S 142 24) = 0 then bv (fX10_stepOn  S) fun S => (BX10_sayKnows_11  S) else (BX10_sayKnows_11  S))
set_option maxHeartbeats 4000000 in
set_option maxRecDepth 20000 in
theorem sfX10_sayKnows (C : Cx p s m args meth c cX10_sayKnows 3 RX10 G) (hr : meth.sig.returnType = none)  {S : St} {res : St} {H : Heap} {locs : List Loc} {ls : Array Slot}  (hd : Dy G S s H locs) (hl : lv_has ls 3 [(0, .ref (gR G 142))]) (h : fX10_sayKnows  S = some res) : W p l e (rmL 7 0 0) s m args below meth c H locs 0 0 (MQ below (QV G res) args s 0 0 (Ab G)) (F0 m 0 ls []) := by
  unfold fX10_sayKnows at h
  have hx := C.1.1
  have hb := C.1.2.1
  refine lv_aload_n hx hb dX10_sayKnows_0 rfl (lv_at hl 0 rfl) ?_
  refine gX10_216 C hd (rfl : kd 142 = 10) dX10_sayKnows_1 ?_
  refine lv_if_ne (tgt := 11) hx hb dX10_sayKnows_4 (by decide) (fun c1 => ?_) (fun c1 => ?_)
  · rw [if_neg c1] at h
    exact sBX10_sayKnows_11 C hr  hd (lv_sub hl [0] rfl) h
  · rw [if_pos c1] at h
    refine lv_aload_n hx hb dX10_sayKnows_7 rfl (lv_at hl 0 rfl) ?_
    obtain ⟨S1, hc, h⟩ := bv_some h
    refine R_cVv C hd (ccX10_stepOn l G  hc) kX10_241 rfl (by decide) (rfl : kd 142 = 10) hl.1 ⟨by decide, by decide⟩ rfl rfl (Nat.le_of_ble_eq_true rfl) dX10_sayKnows_8 ⟨Nat.zero_le _, Nat.zero_le _⟩ (fun H locs hd => ?_)
    generalize S1 = S at h hd
    exact sBX10_sayKnows_11 C hr  hd (lv_sub hl [0] rfl) h
set_option maxRecDepth 20000 in
theorem ccX10_sayKnows (l : Launch) (G : Gt)  {S : St} {res : St}  (h : fX10_sayKnows  S = some res) : Met l yX10_sayKnows (wm yX10_sayKnows cX10_sayKnows 3 (none)) (rmL 7 0 0) (PcW G S [.ref (gR G 142)]) (QV G res) 0 0 (Ab G) := by
  refine Met.ofW (cc := cX10_sayKnows) (maxL := 3) (ret := none) (by decide) rfl ?_
  intro p e s m args below meth c s₁ B hml hv
  obtain ⟨rfl, hK, hP⟩ := hv
  have C : Cx p s m _ meth c cX10_sayKnows 3 RX10 G := ⟨⟨B.exec, B.bytes, hml, findClass_of_methodNamed B.named, fun w hw => atoms_spec (ws := wm yX10_sayKnows cX10_sayKnows 3 (none)) B.pre w (List.mem_cons_of_mem _ hw)⟩, B.notSynchronized, hK⟩
  have hl := lv_entry ([.ref (gR G 142)]) (n := 3) (Nat.le_of_ble_eq_true rfl)
  rw [lg_entry_eq]
  generalize (lg_sl ([.ref (gR G 142)]) ++ List.replicate (3 - (lg_sl ([.ref (gR G 142)])).length) Slot.unset).toArray = ls at hl ⊢
  exact sfX10_sayKnows C B.returns  ⟨hP, va_S.rf⟩ hl h
def BX10_sayOwns_48 (l1 : Int32) (l2 : Int32) (S : St) : Option St :=
  (if (S 142 24) = 0 then bv (fX10_stepOn  S) fun S => wr S 153 (8 + l2) l1 fun S => some S else some S)
set_option maxHeartbeats 4000000 in
set_option maxRecDepth 20000 in
theorem sBX10_sayOwns_48 (C : Cx p s m args meth c cX10_sayOwns 3 RX10 G) (hr : meth.sig.returnType = none) {l1 : Int32} {l2 : Int32} {S : St} {res : St} {H : Heap} {locs : List Loc} {ls : Array Slot}  (hd : Dy G S s H locs) (hl : lv_has ls 3 [(0, .ref (gR G 142)), (1, .int l1), (2, .int l2)]) (h : BX10_sayOwns_48 l1 l2 S = some res) : W p l e (rmL 7 0 0) s m args below meth c H locs 0 0 (MQ below (QV G res) args s 0 0 (Ab G)) (F0 m 48 ls []) := by
  unfold BX10_sayOwns_48 at h
  have hx := C.1.1
  have hb := C.1.2.1
  refine lv_aload_n hx hb dX10_sayOwns_48 rfl (lv_at hl 0 rfl) ?_
  refine gX10_216 C hd (rfl : kd 142 = 10) dX10_sayOwns_49 ?_
  refine lv_if_eq (tgt := 56) hx hb dX10_sayOwns_52 (by decide) (fun c1 => ?_) (fun c1 => ?_)
  · rw [if_pos c1] at h
    refine lv_aload_n hx hb dX10_sayOwns_56 rfl (lv_at hl 0 rfl) ?_
    obtain ⟨S1, hc, h⟩ := bv_some h
    refine R_cVv C hd (ccX10_stepOn l G  hc) kX10_241 rfl (by decide) (rfl : kd 142 = 10) hl.1 ⟨by decide, by decide⟩ rfl rfl (Nat.le_of_ble_eq_true rfl) dX10_sayOwns_57 ⟨Nat.zero_le _, Nat.zero_le _⟩ (fun H locs hd => ?_)
    generalize S1 = S at h hd
    refine lv_aload_n hx hb dX10_sayOwns_60 rfl (lv_at hl 0 rfl) ?_
    refine gX10_62 C hd (rfl : kd 142 = 10) (q := 153) rfl dX10_sayOwns_61 (fun y2 => ?_)
    refine lv_bipush (v := 8) hx hb dX10_sayOwns_64 (by decide) ?_
    refine lv_iload_n hx hb dX10_sayOwns_66 rfl (lv_at hl 2 rfl) ?_
    refine lv_iadd hx hb dX10_sayOwns_67 ?_
    refine lv_iload_n hx hb dX10_sayOwns_68 rfl (lv_at hl 1 rfl) ?_
    refine R_iast C hd y2 h dX10_sayOwns_69 (fun S H locs hd h => ?_)
    exact R_vret C hr hd h dX10_sayOwns_70
  · rw [if_neg c1] at h
    exact R_vret C hr hd h dX10_sayOwns_55
def BX10_sayOwns_11  (S : St) : Option St :=
  bd (fX10_readOne 2 S) fun x1 S => bd (fX10_oneNow 0 S) fun x2 S => (if (S 142 24) = 0 then rd S 153 (8 + x2) fun x5 => (if x5 = (-1) then (BX10_sayOwns_48 x1 x2 S) else bv (fX10_wrong 4 S) fun S => (BX10_sayOwns_48 x1 x2 S)) else (BX10_sayOwns_48 x1 x2 S))
set_option maxHeartbeats 4000000 in
set_option maxRecDepth 20000 in
theorem sBX10_sayOwns_11 (C : Cx p s m args meth c cX10_sayOwns 3 RX10 G) (hr : meth.sig.returnType = none)  {S : St} {res : St} {H : Heap} {locs : List Loc} {ls : Array Slot}  (hd : Dy G S s H locs) (hl : lv_has ls 3 [(0, .ref (gR G 142))]) (h : BX10_sayOwns_11  S = some res) : W p l e (rmL 7 0 0) s m args below meth c H locs 0 0 (MQ below (QV G res) args s 0 0 (Ab G)) (F0 m 11 ls []) := by
  unfold BX10_sayOwns_11 at h
  have hx := C.1.1
  have hb := C.1.2.1
  refine lv_aload_n hx hb dX10_sayOwns_11 rfl (lv_at hl 0 rfl) ?_
  refine lv_iconst (v := 2) hx hb dX10_sayOwns_12 (by decide) ?_
  obtain ⟨x1, S1, hc, h⟩ := bd_some h
  refine R_cVi C hd (ccX10_readOne l G  hc) kX10_295 rfl (by decide) (rfl : kd 142 = 10) hl.1 ⟨by decide, by decide⟩ rfl rfl (Nat.le_of_ble_eq_true rfl) dX10_sayOwns_13 ⟨Nat.zero_le _, Nat.zero_le _⟩ (fun H locs hd => ?_)
  generalize S1 = S at h hd
  refine lv_istore_n (lv' := [(1, .int x1), (0, .ref (gR G 142))]) hx hb dX10_sayOwns_16 rfl hl (by decide) rfl (fun ls hl => ?_)
  refine lv_aload_n hx hb dX10_sayOwns_17 rfl (lv_at hl 1 rfl) ?_
  refine lv_iconst (v := 0) hx hb dX10_sayOwns_18 (by decide) ?_
  obtain ⟨x2, S1, hc, h⟩ := bd_some h
  refine R_cVi C hd (ccX10_oneNow l G  hc) kX10_247 rfl (by decide) (rfl : kd 142 = 10) hl.1 ⟨by decide, by decide⟩ rfl rfl (Nat.le_of_ble_eq_true rfl) dX10_sayOwns_19 ⟨Nat.zero_le _, Nat.zero_le _⟩ (fun H locs hd => ?_)
  generalize S1 = S at h hd
  refine lv_istore_n (lv' := [(2, .int x2), (1, .int x1), (0, .ref (gR G 142))]) hx hb dX10_sayOwns_22 rfl hl (by decide) rfl (fun ls hl => ?_)
  refine lv_aload_n hx hb dX10_sayOwns_23 rfl (lv_at hl 2 rfl) ?_
  refine gX10_216 C hd (rfl : kd 142 = 10) dX10_sayOwns_24 ?_
  refine lv_if_ne (tgt := 48) hx hb dX10_sayOwns_27 (by decide) (fun c3 => ?_) (fun c3 => ?_)
  · rw [if_neg c3] at h
    exact sBX10_sayOwns_48 C hr  hd (lv_sub hl [2, 1, 0] rfl) h
  · rw [if_pos c3] at h
    refine lv_aload_n hx hb dX10_sayOwns_30 rfl (lv_at hl 2 rfl) ?_
    refine gX10_62 C hd (rfl : kd 142 = 10) (q := 153) rfl dX10_sayOwns_31 (fun y4 => ?_)
    refine lv_bipush (v := 8) hx hb dX10_sayOwns_34 (by decide) ?_
    refine lv_iload_n hx hb dX10_sayOwns_36 rfl (lv_at hl 0 rfl) ?_
    refine lv_iadd hx hb dX10_sayOwns_37 ?_
    refine R_iald C hd y4 h dX10_sayOwns_38 (fun x5 h => ?_)
    refine lv_iconst (v := -1) hx hb dX10_sayOwns_39 (by decide) ?_
    refine lv_icmp_eq (tgt := 48) hx hb dX10_sayOwns_40 (by decide) (fun c6 => ?_) (fun c6 => ?_)
    · rw [if_pos c6] at h
      exact sBX10_sayOwns_48 C hr  hd (lv_sub hl [2, 1, 0] rfl) h
    · rw [if_neg c6] at h
      refine lv_aload_n hx hb dX10_sayOwns_43 rfl (lv_at hl 2 rfl) ?_
      refine lv_iconst (v := 4) hx hb dX10_sayOwns_44 (by decide) ?_
      obtain ⟨S1, hc, h⟩ := bv_some h
      refine R_cVv C hd (ccX10_wrong l G  hc) kX10_237 rfl (by decide) (rfl : kd 142 = 10) hl.1 ⟨by decide, by decide⟩ rfl rfl (Nat.le_of_ble_eq_true rfl) dX10_sayOwns_45 ⟨Nat.zero_le _, Nat.zero_le _⟩ (fun H locs hd => ?_)
      generalize S1 = S at h hd
      exact sBX10_sayOwns_48 C hr  hd (lv_sub hl [2, 1, 0] rfl) h
def fX10_sayOwns  (S : St) : Option St :=
  (if (S 142 24) = 0 then bv (fX10_stepOn  S) fun S => (BX10_sayOwns_11  S) else (BX10_sayOwns_11  S))
set_option maxHeartbeats 4000000 in
set_option maxRecDepth 20000 in
theorem sfX10_sayOwns (C : Cx p s m args meth c cX10_sayOwns 3 RX10 G) (hr : meth.sig.returnType = none)  {S : St} {res : St} {H : Heap} {locs : List Loc} {ls : Array Slot}  (hd : Dy G S s H locs) (hl : lv_has ls 3 [(0, .ref (gR G 142))]) (h : fX10_sayOwns  S = some res) : W p l e (rmL 7 0 0) s m args below meth c H locs 0 0 (MQ below (QV G res) args s 0 0 (Ab G)) (F0 m 0 ls []) := by
  unfold fX10_sayOwns at h
  have hx := C.1.1
  have hb := C.1.2.1
  refine lv_aload_n hx hb dX10_sayOwns_0 rfl (lv_at hl 0 rfl) ?_
  refine gX10_216 C hd (rfl : kd 142 = 10) dX10_sayOwns_1 ?_
  refine lv_if_ne (tgt := 11) hx hb dX10_sayOwns_4 (by decide) (fun c1 => ?_) (fun c1 => ?_)
  · rw [if_neg c1] at h
    exact sBX10_sayOwns_11 C hr  hd (lv_sub hl [0] rfl) h
  · rw [if_pos c1] at h
    refine lv_aload_n hx hb dX10_sayOwns_7 rfl (lv_at hl 0 rfl) ?_
    obtain ⟨S1, hc, h⟩ := bv_some h
    refine R_cVv C hd (ccX10_stepOn l G  hc) kX10_241 rfl (by decide) (rfl : kd 142 = 10) hl.1 ⟨by decide, by decide⟩ rfl rfl (Nat.le_of_ble_eq_true rfl) dX10_sayOwns_8 ⟨Nat.zero_le _, Nat.zero_le _⟩ (fun H locs hd => ?_)
    generalize S1 = S at h hd
    exact sBX10_sayOwns_11 C hr  hd (lv_sub hl [0] rfl) h
set_option maxRecDepth 20000 in
theorem ccX10_sayOwns (l : Launch) (G : Gt)  {S : St} {res : St}  (h : fX10_sayOwns  S = some res) : Met l yX10_sayOwns (wm yX10_sayOwns cX10_sayOwns 3 (none)) (rmL 7 0 0) (PcW G S [.ref (gR G 142)]) (QV G res) 0 0 (Ab G) := by
  refine Met.ofW (cc := cX10_sayOwns) (maxL := 3) (ret := none) (by decide) rfl ?_
  intro p e s m args below meth c s₁ B hml hv
  obtain ⟨rfl, hK, hP⟩ := hv
  have C : Cx p s m _ meth c cX10_sayOwns 3 RX10 G := ⟨⟨B.exec, B.bytes, hml, findClass_of_methodNamed B.named, fun w hw => atoms_spec (ws := wm yX10_sayOwns cX10_sayOwns 3 (none)) B.pre w (List.mem_cons_of_mem _ hw)⟩, B.notSynchronized, hK⟩
  have hl := lv_entry ([.ref (gR G 142)]) (n := 3) (Nat.le_of_ble_eq_true rfl)
  rw [lg_entry_eq]
  generalize (lg_sl ([.ref (gR G 142)]) ++ List.replicate (3 - (lg_sl ([.ref (gR G 142)])).length) Slot.unset).toArray = ls at hl ⊢
  exact sfX10_sayOwns C B.returns  ⟨hP, va_S.rf⟩ hl h
def KX10_takeHalf_2 (r2 : Nat → Int32 → St → Option St) (l0 : Nat) (l1 : Int32) (S : St) : Option St :=
  dv (nI (ln l0)) 2 fun x1 => (if x1 ≤ l1 then some S else dv (nI (ln l0)) 2 fun x3 => rd S l0 (x3 + l1) fun x4 => wr S l0 l1 x4 fun S => vl (l1 + 1) fun x5 => (r2 l0 x5 S))
set_option maxHeartbeats 4000000 in
set_option maxRecDepth 20000 in
theorem sKX10_takeHalf_2 (C : Cx p s m args meth c cX10_takeHalf 2 RX10 G) (hr : meth.sig.returnType = none) {r2 : Nat → Int32 → St → Option St} (hr2 : ∀ (l0 : Nat) (l1 : Int32) (S : St) (res : St) (H : Heap) (locs : List Loc) (ls : Array Slot), kd l0 = 20 → Dy G S s H locs → lv_has ls 2 [(0, .ref (gR G l0)), (1, .int l1)] → r2 l0 l1 S = some res → W p l e (rmL 3 0 0) s m args below meth c H locs 0 0 (MQ below (QV G res) args s 0 0 (Ab G)) (F0 m 2 ls [])) {l0 : Nat} {l1 : Int32} {S : St} {res : St} {H : Heap} {locs : List Loc} {ls : Array Slot} (kl0 : kd l0 = 20) (hd : Dy G S s H locs) (hl : lv_has ls 2 [(0, .ref (gR G l0)), (1, .int l1)]) (h : KX10_takeHalf_2 r2 l0 l1 S = some res) : W p l e (rmL 3 0 0) s m args below meth c H locs 0 0 (MQ below (QV G res) args s 0 0 (Ab G)) (F0 m 2 ls []) := by
  unfold KX10_takeHalf_2 at h
  have hx := C.1.1
  have hb := C.1.2.1
  refine lv_iload_n hx hb dX10_takeHalf_2 rfl (lv_at hl 1 rfl) ?_
  refine lv_aload_n hx hb dX10_takeHalf_3 rfl (lv_at hl 0 rfl) ?_
  refine R_alen C hd kl0 (v := nI (ln l0)) rfl dX10_takeHalf_4 ?_
  refine lv_iconst (v := 2) hx hb dX10_takeHalf_5 (by decide) ?_
  refine R_div C h dX10_takeHalf_6 (fun x1 h => ?_)
  refine lv_icmp_ge (tgt := 27) hx hb dX10_takeHalf_7 (by decide) (fun c2 => ?_) (fun c2 => ?_)
  · rw [if_pos c2] at h
    exact R_vret C hr hd h dX10_takeHalf_27
  · rw [if_neg c2] at h
    refine lv_aload_n hx hb dX10_takeHalf_10 rfl (lv_at hl 0 rfl) ?_
    refine lv_iload_n hx hb dX10_takeHalf_11 rfl (lv_at hl 1 rfl) ?_
    refine lv_aload_n hx hb dX10_takeHalf_12 rfl (lv_at hl 0 rfl) ?_
    refine lv_aload_n hx hb dX10_takeHalf_13 rfl (lv_at hl 0 rfl) ?_
    refine R_alen C hd kl0 (v := nI (ln l0)) rfl dX10_takeHalf_14 ?_
    refine lv_iconst (v := 2) hx hb dX10_takeHalf_15 (by decide) ?_
    refine R_div C h dX10_takeHalf_16 (fun x3 h => ?_)
    refine lv_iload_n hx hb dX10_takeHalf_17 rfl (lv_at hl 1 rfl) ?_
    refine lv_iadd hx hb dX10_takeHalf_18 ?_
    refine R_iald C hd kl0 h dX10_takeHalf_19 (fun x4 h => ?_)
    refine R_iast C hd kl0 h dX10_takeHalf_20 (fun S H locs hd h => ?_)
    refine R_vi h (fun x5 ex5 h => ?_)
    refine lv_iinc (v := x5) (lv' := [(1, .int x5), (0, .ref (gR G l0))]) hx hb dX10_takeHalf_21 hl (k := 1) rfl (by rw [ex5]; rfl) (by decide) rfl (fun ls hl => ?_)
    refine lv_goto (tgt := 2) hx hb dX10_takeHalf_24 (by decide) ?_
    exact hr2 l0 x5 _ _ _ _ _ kl0 hd (lv_sub hl [1, 0] rfl) h
def LX10_takeHalf_2 : Nat → Nat → Int32 → St → Option St
  | 0 => fun _ _ _ => none
  | n + 1 => fun l0 l1 S => KX10_takeHalf_2 (LX10_takeHalf_2 n) l0 l1 S
theorem sLX10_takeHalf_2 (C : Cx p s m args meth c cX10_takeHalf 2 RX10 G) (hr : meth.sig.returnType = none) : ∀ (n : Nat) (l0 : Nat) (l1 : Int32) (S : St) (res : St) (H : Heap) (locs : List Loc) (ls : Array Slot), kd l0 = 20 → Dy G S s H locs → lv_has ls 2 [(0, .ref (gR G l0)), (1, .int l1)] → LX10_takeHalf_2 n l0 l1 S = some res → W p l e (rmL 3 0 0) s m args below meth c H locs 0 0 (MQ below (QV G res) args s 0 0 (Ab G)) (F0 m 2 ls []) := by
  intro n
  induction n with
  | zero => intro l0 l1 S res H locs ls kl0 hd hl h; cases h
  | succ n ih =>
    intro l0 l1 S res H locs ls kl0 hd hl h
    exact sKX10_takeHalf_2 C hr ih kl0 hd hl h
def fX10_takeHalf (a0 : Nat) (S : St) : Option St :=
  (LX10_takeHalf_2 FU a0 0 S)
set_option maxHeartbeats 4000000 in
set_option maxRecDepth 20000 in
theorem sfX10_takeHalf (C : Cx p s m args meth c cX10_takeHalf 2 RX10 G) (hr : meth.sig.returnType = none) {a0 : Nat} {S : St} {res : St} {H : Heap} {locs : List Loc} {ls : Array Slot} (k0 : kd a0 = 20) (hd : Dy G S s H locs) (hl : lv_has ls 2 [(0, .ref (gR G a0))]) (h : fX10_takeHalf a0 S = some res) : W p l e (rmL 3 0 0) s m args below meth c H locs 0 0 (MQ below (QV G res) args s 0 0 (Ab G)) (F0 m 0 ls []) := by
  unfold fX10_takeHalf at h
  have hx := C.1.1
  have hb := C.1.2.1
  refine lv_iconst (v := 0) hx hb dX10_takeHalf_0 (by decide) ?_
  refine lv_istore_n (lv' := [(1, .int 0), (0, .ref (gR G a0))]) hx hb dX10_takeHalf_1 rfl hl (by decide) rfl (fun ls hl => ?_)
  exact sLX10_takeHalf_2 C hr _ a0 0 _ _ _ _ _ k0 hd (lv_sub hl [1, 0] rfl) h
set_option maxRecDepth 20000 in
theorem ccX10_takeHalf (l : Launch) (G : Gt) {a0 : Nat} {S : St} {res : St} (k0 : kd a0 = 20) (h : fX10_takeHalf a0 S = some res) : Met l yX10_takeHalf (wm yX10_takeHalf cX10_takeHalf 2 (none)) (rmL 3 0 0) (PcW G S [.ref (gR G a0)]) (QV G res) 0 0 (Ab G) := by
  refine Met.ofW (cc := cX10_takeHalf) (maxL := 2) (ret := none) (by decide) rfl ?_
  intro p e s m args below meth c s₁ B hml hv
  obtain ⟨rfl, hK, hP⟩ := hv
  have C : Cx p s m _ meth c cX10_takeHalf 2 RX10 G := ⟨⟨B.exec, B.bytes, hml, findClass_of_methodNamed B.named, fun w hw => atoms_spec (ws := wm yX10_takeHalf cX10_takeHalf 2 (none)) B.pre w (List.mem_cons_of_mem _ hw)⟩, B.notSynchronized, hK⟩
  have hl := lv_entry ([.ref (gR G a0)]) (n := 2) (Nat.le_of_ble_eq_true rfl)
  rw [lg_entry_eq]
  generalize (lg_sl ([.ref (gR G a0)]) ++ List.replicate (2 - (lg_sl ([.ref (gR G a0)])).length) Slot.unset).toArray = ls at hl ⊢
  exact sfX10_takeHalf C B.returns k0 ⟨hP, va_S.rf⟩ hl h
def KX10_tellFars_112 (r88 : Int32 → St → Option St) (r100 : Int32 → Int32 → St → Option St) (r112 : Int32 → Int32 → Int32 → St → Option St) (l1 : Int32) (l2 : Int32) (l3 : Int32) (S : St) : Option St :=
  rd S 145 0 fun x2 => (if x2 ≤ l3 then vl (l2 + 1) fun x4 => (r100 l1 x4 S) else rd S 164 ((8 * l2) + l3) fun x7 => rd S 164 ((8 * l2) + l1) fun x9 => rd S 164 ((8 * l1) + l3) fun x11 => vl (if (x9 + x11) < x7 then x9 + x11 else x7) fun x12 => wr S 164 ((8 * l2) + l3) x12 fun S => vl (l3 + 1) fun x13 => (r112 l1 l2 x13 S))
set_option maxHeartbeats 4000000 in
set_option maxRecDepth 20000 in
theorem sKX10_tellFars_112 (C : Cx p s m args meth c cX10_tellFars 4 RX10 G) (hr : meth.sig.returnType = none) {r88 : Int32 → St → Option St} {r100 : Int32 → Int32 → St → Option St} {r112 : Int32 → Int32 → Int32 → St → Option St} (hr88 : ∀ (l1 : Int32) (S : St) (res : St) (H : Heap) (locs : List Loc) (ls : Array Slot), Dy G S s H locs → lv_has ls 4 [(0, .ref (gR G 142)), (1, .int l1)] → r88 l1 S = some res → W p l e (rmL 3 0 0) s m args below meth c H locs 0 0 (MQ below (QV G res) args s 0 0 (Ab G)) (F0 m 88 ls [])) (hr100 : ∀ (l1 : Int32) (l2 : Int32) (S : St) (res : St) (H : Heap) (locs : List Loc) (ls : Array Slot), Dy G S s H locs → lv_has ls 4 [(0, .ref (gR G 142)), (1, .int l1), (2, .int l2)] → r100 l1 l2 S = some res → W p l e (rmL 3 0 0) s m args below meth c H locs 0 0 (MQ below (QV G res) args s 0 0 (Ab G)) (F0 m 100 ls [])) (hr112 : ∀ (l1 : Int32) (l2 : Int32) (l3 : Int32) (S : St) (res : St) (H : Heap) (locs : List Loc) (ls : Array Slot), Dy G S s H locs → lv_has ls 4 [(0, .ref (gR G 142)), (1, .int l1), (2, .int l2), (3, .int l3)] → r112 l1 l2 l3 S = some res → W p l e (rmL 3 0 0) s m args below meth c H locs 0 0 (MQ below (QV G res) args s 0 0 (Ab G)) (F0 m 112 ls [])) {l1 : Int32} {l2 : Int32} {l3 : Int32} {S : St} {res : St} {H : Heap} {locs : List Loc} {ls : Array Slot}  (hd : Dy G S s H locs) (hl : lv_has ls 4 [(0, .ref (gR G 142)), (1, .int l1), (2, .int l2), (3, .int l3)]) (h : KX10_tellFars_112 r88 r100 r112 l1 l2 l3 S = some res) : W p l e (rmL 3 0 0) s m args below meth c H locs 0 0 (MQ below (QV G res) args s 0 0 (Ab G)) (F0 m 112 ls []) := by
  unfold KX10_tellFars_112 at h
  have hx := C.1.1
  have hb := C.1.2.1
  refine lv_iload_n hx hb dX10_tellFars_112 rfl (lv_at hl 3 rfl) ?_
  refine lv_aload_n hx hb dX10_tellFars_113 rfl (lv_at hl 0 rfl) ?_
  refine gX10_39 C hd (rfl : kd 142 = 10) (q := 145) rfl dX10_tellFars_114 (fun y1 => ?_)
  refine lv_iconst (v := 0) hx hb dX10_tellFars_117 (by decide) ?_
  refine R_iald C hd y1 h dX10_tellFars_118 (fun x2 h => ?_)
  refine lv_icmp_ge (tgt := 176) hx hb dX10_tellFars_119 (by decide) (fun c3 => ?_) (fun c3 => ?_)
  · rw [if_pos c3] at h
    refine R_vi h (fun x4 ex4 h => ?_)
    refine lv_iinc (v := x4) (lv' := [(2, .int x4), (0, .ref (gR G 142)), (1, .int l1), (3, .int l3)]) hx hb dX10_tellFars_176 hl (k := 2) rfl (by rw [ex4]; rfl) (by decide) rfl (fun ls hl => ?_)
    refine lv_goto (tgt := 100) hx hb dX10_tellFars_179 (by decide) ?_
    exact hr100 l1 x4 _ _ _ _ _  hd (lv_sub hl [1, 2, 0] rfl) h
  · rw [if_neg c3] at h
    refine lv_aload_n hx hb dX10_tellFars_122 rfl (lv_at hl 0 rfl) ?_
    refine gX10_98 C hd (rfl : kd 142 = 10) (q := 164) rfl dX10_tellFars_123 (fun y5 => ?_)
    refine lv_bipush (v := 8) hx hb dX10_tellFars_126 (by decide) ?_
    refine lv_iload_n hx hb dX10_tellFars_128 rfl (lv_at hl 2 rfl) ?_
    refine lv_imul hx hb dX10_tellFars_129 ?_
    refine lv_iload_n hx hb dX10_tellFars_130 rfl (lv_at hl 3 rfl) ?_
    refine lv_iadd hx hb dX10_tellFars_131 ?_
    refine lv_aload_n hx hb dX10_tellFars_132 rfl (lv_at hl 0 rfl) ?_
    refine gX10_98 C hd (rfl : kd 142 = 10) (q := 164) rfl dX10_tellFars_133 (fun y6 => ?_)
    refine lv_bipush (v := 8) hx hb dX10_tellFars_136 (by decide) ?_
    refine lv_iload_n hx hb dX10_tellFars_138 rfl (lv_at hl 2 rfl) ?_
    refine lv_imul hx hb dX10_tellFars_139 ?_
    refine lv_iload_n hx hb dX10_tellFars_140 rfl (lv_at hl 3 rfl) ?_
    refine lv_iadd hx hb dX10_tellFars_141 ?_
    refine R_iald C hd y6 h dX10_tellFars_142 (fun x7 h => ?_)
    refine lv_aload_n hx hb dX10_tellFars_143 rfl (lv_at hl 0 rfl) ?_
    refine gX10_98 C hd (rfl : kd 142 = 10) (q := 164) rfl dX10_tellFars_144 (fun y8 => ?_)
    refine lv_bipush (v := 8) hx hb dX10_tellFars_147 (by decide) ?_
    refine lv_iload_n hx hb dX10_tellFars_149 rfl (lv_at hl 2 rfl) ?_
    refine lv_imul hx hb dX10_tellFars_150 ?_
    refine lv_iload_n hx hb dX10_tellFars_151 rfl (lv_at hl 1 rfl) ?_
    refine lv_iadd hx hb dX10_tellFars_152 ?_
    refine R_iald C hd y8 h dX10_tellFars_153 (fun x9 h => ?_)
    refine lv_aload_n hx hb dX10_tellFars_154 rfl (lv_at hl 0 rfl) ?_
    refine gX10_98 C hd (rfl : kd 142 = 10) (q := 164) rfl dX10_tellFars_155 (fun y10 => ?_)
    refine lv_bipush (v := 8) hx hb dX10_tellFars_158 (by decide) ?_
    refine lv_iload_n hx hb dX10_tellFars_160 rfl (lv_at hl 1 rfl) ?_
    refine lv_imul hx hb dX10_tellFars_161 ?_
    refine lv_iload_n hx hb dX10_tellFars_162 rfl (lv_at hl 3 rfl) ?_
    refine lv_iadd hx hb dX10_tellFars_163 ?_
    refine R_iald C hd y10 h dX10_tellFars_164 (fun x11 h => ?_)
    refine lv_iadd hx hb dX10_tellFars_165 ?_
    refine R_mmin C hl.1 kmX10_204 (Nat.le_of_ble_eq_true rfl) (Nat.le_of_ble_eq_true rfl) (Nat.le_of_ble_eq_true rfl) (Nat.le_of_ble_eq_true rfl) dX10_tellFars_166 ?_
    refine R_vl h (fun x12 h => ?_)
    refine R_iast C hd y5 h dX10_tellFars_169 (fun S H locs hd h => ?_)
    refine R_vi h (fun x13 ex13 h => ?_)
    refine lv_iinc (v := x13) (lv' := [(3, .int x13), (0, .ref (gR G 142)), (1, .int l1), (2, .int l2)]) hx hb dX10_tellFars_170 hl (k := 3) rfl (by rw [ex13]; rfl) (by decide) rfl (fun ls hl => ?_)
    refine lv_goto (tgt := 112) hx hb dX10_tellFars_173 (by decide) ?_
    exact hr112 l1 l2 x13 _ _ _ _ _  hd (lv_sub hl [1, 2, 3, 0] rfl) h
def LX10_tellFars_112 (r88 : Int32 → St → Option St) (r100 : Int32 → Int32 → St → Option St) : Nat → Int32 → Int32 → Int32 → St → Option St
  | 0 => fun _ _ _ _ => none
  | n + 1 => fun l1 l2 l3 S => KX10_tellFars_112 r88 r100 (LX10_tellFars_112 r88 r100 n) l1 l2 l3 S
theorem sLX10_tellFars_112 (C : Cx p s m args meth c cX10_tellFars 4 RX10 G) (hr : meth.sig.returnType = none) {r88 : Int32 → St → Option St} {r100 : Int32 → Int32 → St → Option St} (hr88 : ∀ (l1 : Int32) (S : St) (res : St) (H : Heap) (locs : List Loc) (ls : Array Slot), Dy G S s H locs → lv_has ls 4 [(0, .ref (gR G 142)), (1, .int l1)] → r88 l1 S = some res → W p l e (rmL 3 0 0) s m args below meth c H locs 0 0 (MQ below (QV G res) args s 0 0 (Ab G)) (F0 m 88 ls [])) (hr100 : ∀ (l1 : Int32) (l2 : Int32) (S : St) (res : St) (H : Heap) (locs : List Loc) (ls : Array Slot), Dy G S s H locs → lv_has ls 4 [(0, .ref (gR G 142)), (1, .int l1), (2, .int l2)] → r100 l1 l2 S = some res → W p l e (rmL 3 0 0) s m args below meth c H locs 0 0 (MQ below (QV G res) args s 0 0 (Ab G)) (F0 m 100 ls [])) : ∀ (n : Nat) (l1 : Int32) (l2 : Int32) (l3 : Int32) (S : St) (res : St) (H : Heap) (locs : List Loc) (ls : Array Slot), Dy G S s H locs → lv_has ls 4 [(0, .ref (gR G 142)), (1, .int l1), (2, .int l2), (3, .int l3)] → LX10_tellFars_112 r88 r100 n l1 l2 l3 S = some res → W p l e (rmL 3 0 0) s m args below meth c H locs 0 0 (MQ below (QV G res) args s 0 0 (Ab G)) (F0 m 112 ls []) := by
  intro n
  induction n with
  | zero => intro l1 l2 l3 S res H locs ls  hd hl h; cases h
  | succ n ih =>
    intro l1 l2 l3 S res H locs ls  hd hl h
    exact sKX10_tellFars_112 C hr hr88 hr100 ih  hd hl h
def KX10_tellFars_100 (r88 : Int32 → St → Option St) (r100 : Int32 → Int32 → St → Option St) (l1 : Int32) (l2 : Int32) (S : St) : Option St :=
  rd S 145 0 fun x2 => (if x2 ≤ l2 then vl (l1 + 1) fun x4 => (r88 x4 S) else (LX10_tellFars_112 r88 r100 FU l1 l2 0 S))
set_option maxHeartbeats 4000000 in
set_option maxRecDepth 20000 in
theorem sKX10_tellFars_100 (C : Cx p s m args meth c cX10_tellFars 4 RX10 G) (hr : meth.sig.returnType = none) {r88 : Int32 → St → Option St} {r100 : Int32 → Int32 → St → Option St} (hr88 : ∀ (l1 : Int32) (S : St) (res : St) (H : Heap) (locs : List Loc) (ls : Array Slot), Dy G S s H locs → lv_has ls 4 [(0, .ref (gR G 142)), (1, .int l1)] → r88 l1 S = some res → W p l e (rmL 3 0 0) s m args below meth c H locs 0 0 (MQ below (QV G res) args s 0 0 (Ab G)) (F0 m 88 ls [])) (hr100 : ∀ (l1 : Int32) (l2 : Int32) (S : St) (res : St) (H : Heap) (locs : List Loc) (ls : Array Slot), Dy G S s H locs → lv_has ls 4 [(0, .ref (gR G 142)), (1, .int l1), (2, .int l2)] → r100 l1 l2 S = some res → W p l e (rmL 3 0 0) s m args below meth c H locs 0 0 (MQ below (QV G res) args s 0 0 (Ab G)) (F0 m 100 ls [])) {l1 : Int32} {l2 : Int32} {S : St} {res : St} {H : Heap} {locs : List Loc} {ls : Array Slot}  (hd : Dy G S s H locs) (hl : lv_has ls 4 [(0, .ref (gR G 142)), (1, .int l1), (2, .int l2)]) (h : KX10_tellFars_100 r88 r100 l1 l2 S = some res) : W p l e (rmL 3 0 0) s m args below meth c H locs 0 0 (MQ below (QV G res) args s 0 0 (Ab G)) (F0 m 100 ls []) := by
  unfold KX10_tellFars_100 at h
  have hx := C.1.1
  have hb := C.1.2.1
  refine lv_iload_n hx hb dX10_tellFars_100 rfl (lv_at hl 2 rfl) ?_
  refine lv_aload_n hx hb dX10_tellFars_101 rfl (lv_at hl 0 rfl) ?_
  refine gX10_39 C hd (rfl : kd 142 = 10) (q := 145) rfl dX10_tellFars_102 (fun y1 => ?_)
  refine lv_iconst (v := 0) hx hb dX10_tellFars_105 (by decide) ?_
  refine R_iald C hd y1 h dX10_tellFars_106 (fun x2 h => ?_)
  refine lv_icmp_ge (tgt := 182) hx hb dX10_tellFars_107 (by decide) (fun c3 => ?_) (fun c3 => ?_)
  · rw [if_pos c3] at h
    refine R_vi h (fun x4 ex4 h => ?_)
    refine lv_iinc (v := x4) (lv' := [(1, .int x4), (0, .ref (gR G 142)), (2, .int l2)]) hx hb dX10_tellFars_182 hl (k := 1) rfl (by rw [ex4]; rfl) (by decide) rfl (fun ls hl => ?_)
    refine lv_goto (tgt := 88) hx hb dX10_tellFars_185 (by decide) ?_
    exact hr88 x4 _ _ _ _ _  hd (lv_sub hl [1, 0] rfl) h
  · rw [if_neg c3] at h
    refine lv_iconst (v := 0) hx hb dX10_tellFars_110 (by decide) ?_
    refine lv_istore_n (lv' := [(3, .int 0), (0, .ref (gR G 142)), (1, .int l1), (2, .int l2)]) hx hb dX10_tellFars_111 rfl hl (by decide) rfl (fun ls hl => ?_)
    exact sLX10_tellFars_112 C hr hr88 hr100 _ l1 l2 0 _ _ _ _ _  hd (lv_sub hl [1, 2, 3, 0] rfl) h
def LX10_tellFars_100 (r88 : Int32 → St → Option St) : Nat → Int32 → Int32 → St → Option St
  | 0 => fun _ _ _ => none
  | n + 1 => fun l1 l2 S => KX10_tellFars_100 r88 (LX10_tellFars_100 r88 n) l1 l2 S
theorem sLX10_tellFars_100 (C : Cx p s m args meth c cX10_tellFars 4 RX10 G) (hr : meth.sig.returnType = none) {r88 : Int32 → St → Option St} (hr88 : ∀ (l1 : Int32) (S : St) (res : St) (H : Heap) (locs : List Loc) (ls : Array Slot), Dy G S s H locs → lv_has ls 4 [(0, .ref (gR G 142)), (1, .int l1)] → r88 l1 S = some res → W p l e (rmL 3 0 0) s m args below meth c H locs 0 0 (MQ below (QV G res) args s 0 0 (Ab G)) (F0 m 88 ls [])) : ∀ (n : Nat) (l1 : Int32) (l2 : Int32) (S : St) (res : St) (H : Heap) (locs : List Loc) (ls : Array Slot), Dy G S s H locs → lv_has ls 4 [(0, .ref (gR G 142)), (1, .int l1), (2, .int l2)] → LX10_tellFars_100 r88 n l1 l2 S = some res → W p l e (rmL 3 0 0) s m args below meth c H locs 0 0 (MQ below (QV G res) args s 0 0 (Ab G)) (F0 m 100 ls []) := by
  intro n
  induction n with
  | zero => intro l1 l2 S res H locs ls  hd hl h; cases h
  | succ n ih =>
    intro l1 l2 S res H locs ls  hd hl h
    exact sKX10_tellFars_100 C hr hr88 ih  hd hl h
def KX10_tellFars_88 (r88 : Int32 → St → Option St) (l1 : Int32) (S : St) : Option St :=
  rd S 145 0 fun x2 => (if x2 ≤ l1 then some S else (LX10_tellFars_100 r88 FU l1 0 S))
set_option maxHeartbeats 4000000 in
set_option maxRecDepth 20000 in
theorem sKX10_tellFars_88 (C : Cx p s m args meth c cX10_tellFars 4 RX10 G) (hr : meth.sig.returnType = none) {r88 : Int32 → St → Option St} (hr88 : ∀ (l1 : Int32) (S : St) (res : St) (H : Heap) (locs : List Loc) (ls : Array Slot), Dy G S s H locs → lv_has ls 4 [(0, .ref (gR G 142)), (1, .int l1)] → r88 l1 S = some res → W p l e (rmL 3 0 0) s m args below meth c H locs 0 0 (MQ below (QV G res) args s 0 0 (Ab G)) (F0 m 88 ls [])) {l1 : Int32} {S : St} {res : St} {H : Heap} {locs : List Loc} {ls : Array Slot}  (hd : Dy G S s H locs) (hl : lv_has ls 4 [(0, .ref (gR G 142)), (1, .int l1)]) (h : KX10_tellFars_88 r88 l1 S = some res) : W p l e (rmL 3 0 0) s m args below meth c H locs 0 0 (MQ below (QV G res) args s 0 0 (Ab G)) (F0 m 88 ls []) := by
  unfold KX10_tellFars_88 at h
  have hx := C.1.1
  have hb := C.1.2.1
  refine lv_iload_n hx hb dX10_tellFars_88 rfl (lv_at hl 1 rfl) ?_
  refine lv_aload_n hx hb dX10_tellFars_89 rfl (lv_at hl 0 rfl) ?_
  refine gX10_39 C hd (rfl : kd 142 = 10) (q := 145) rfl dX10_tellFars_90 (fun y1 => ?_)
  refine lv_iconst (v := 0) hx hb dX10_tellFars_93 (by decide) ?_
  refine R_iald C hd y1 h dX10_tellFars_94 (fun x2 h => ?_)
  refine lv_icmp_ge (tgt := 188) hx hb dX10_tellFars_95 (by decide) (fun c3 => ?_) (fun c3 => ?_)
  · rw [if_pos c3] at h
    exact R_vret C hr hd h dX10_tellFars_188
  · rw [if_neg c3] at h
    refine lv_iconst (v := 0) hx hb dX10_tellFars_98 (by decide) ?_
    refine lv_istore_n (lv' := [(2, .int 0), (0, .ref (gR G 142)), (1, .int l1)]) hx hb dX10_tellFars_99 rfl hl (by decide) rfl (fun ls hl => ?_)
    exact sLX10_tellFars_100 C hr hr88 _ l1 0 _ _ _ _ _  hd (lv_sub hl [1, 2, 0] rfl) h
def LX10_tellFars_88 : Nat → Int32 → St → Option St
  | 0 => fun _ _ => none
  | n + 1 => fun l1 S => KX10_tellFars_88 (LX10_tellFars_88 n) l1 S
theorem sLX10_tellFars_88 (C : Cx p s m args meth c cX10_tellFars 4 RX10 G) (hr : meth.sig.returnType = none) : ∀ (n : Nat) (l1 : Int32) (S : St) (res : St) (H : Heap) (locs : List Loc) (ls : Array Slot), Dy G S s H locs → lv_has ls 4 [(0, .ref (gR G 142)), (1, .int l1)] → LX10_tellFars_88 n l1 S = some res → W p l e (rmL 3 0 0) s m args below meth c H locs 0 0 (MQ below (QV G res) args s 0 0 (Ab G)) (F0 m 88 ls []) := by
  intro n
  induction n with
  | zero => intro l1 S res H locs ls  hd hl h; cases h
  | succ n ih =>
    intro l1 S res H locs ls  hd hl h
    exact sKX10_tellFars_88 C hr ih  hd hl h
def BX10_tellFars_73 (r2 : Int32 → St → Option St) (r14 : Int32 → Int32 → St → Option St) (l1 : Int32) (l2 : Int32) (s1 : Int32) (s2 : Int32) (S : St) : Option St :=
  wr S 164 s1 s2 fun S => vl (l2 + 1) fun x1 => (r14 l1 x1 S)
set_option maxHeartbeats 4000000 in
set_option maxRecDepth 20000 in
theorem sBX10_tellFars_73 (C : Cx p s m args meth c cX10_tellFars 4 RX10 G) (hr : meth.sig.returnType = none) {r2 : Int32 → St → Option St} {r14 : Int32 → Int32 → St → Option St} (hr2 : ∀ (l1 : Int32) (S : St) (res : St) (H : Heap) (locs : List Loc) (ls : Array Slot), Dy G S s H locs → lv_has ls 4 [(0, .ref (gR G 142)), (1, .int l1)] → r2 l1 S = some res → W p l e (rmL 3 0 0) s m args below meth c H locs 0 0 (MQ below (QV G res) args s 0 0 (Ab G)) (F0 m 2 ls [])) (hr14 : ∀ (l1 : Int32) (l2 : Int32) (S : St) (res : St) (H : Heap) (locs : List Loc) (ls : Array Slot), Dy G S s H locs → lv_has ls 4 [(0, .ref (gR G 142)), (1, .int l1), (2, .int l2)] → r14 l1 l2 S = some res → W p l e (rmL 3 0 0) s m args below meth c H locs 0 0 (MQ below (QV G res) args s 0 0 (Ab G)) (F0 m 14 ls [])) {l1 : Int32} {l2 : Int32} {s1 : Int32} {s2 : Int32} {S : St} {res : St} {H : Heap} {locs : List Loc} {ls : Array Slot}  (hd : Dy G S s H locs) (hl : lv_has ls 4 [(0, .ref (gR G 142)), (1, .int l1), (2, .int l2)]) (h : BX10_tellFars_73 r2 r14 l1 l2 s1 s2 S = some res) : W p l e (rmL 3 0 0) s m args below meth c H locs 0 0 (MQ below (QV G res) args s 0 0 (Ab G)) (F0 m 73 ls [.int s2, .int s1, .ref (gR G 164)]) := by
  unfold BX10_tellFars_73 at h
  have hx := C.1.1
  have hb := C.1.2.1
  refine R_iast C hd (rfl : kd 164 = 20) h dX10_tellFars_73 (fun S H locs hd h => ?_)
  refine R_vi h (fun x1 ex1 h => ?_)
  refine lv_iinc (v := x1) (lv' := [(2, .int x1), (0, .ref (gR G 142)), (1, .int l1)]) hx hb dX10_tellFars_74 hl (k := 2) rfl (by rw [ex1]; rfl) (by decide) rfl (fun ls hl => ?_)
  refine lv_goto (tgt := 14) hx hb dX10_tellFars_77 (by decide) ?_
  exact hr14 l1 x1 _ _ _ _ _  hd (lv_sub hl [1, 2, 0] rfl) h
def KX10_tellFars_14 (r2 : Int32 → St → Option St) (r14 : Int32 → Int32 → St → Option St) (l1 : Int32) (l2 : Int32) (S : St) : Option St :=
  rd S 145 0 fun x2 => (if x2 ≤ l2 then vl (l1 + 1) fun x4 => (r2 x4 S) else (if l1 = l2 then (BX10_tellFars_73 r2 r14 l1 l2 ((8 * l1) + l2) 0 S) else rd S 149 ((8 * l1) + l2) fun x8 => (if x8 ≤ 0 then (BX10_tellFars_73 r2 r14 l1 l2 ((8 * l1) + l2) 100000 S) else rd S 149 ((8 * l1) + l2) fun x11 => (BX10_tellFars_73 r2 r14 l1 l2 ((8 * l1) + l2) x11 S))))
set_option maxHeartbeats 4000000 in
set_option maxRecDepth 20000 in
theorem sKX10_tellFars_14 (C : Cx p s m args meth c cX10_tellFars 4 RX10 G) (hr : meth.sig.returnType = none) {r2 : Int32 → St → Option St} {r14 : Int32 → Int32 → St → Option St} (hr2 : ∀ (l1 : Int32) (S : St) (res : St) (H : Heap) (locs : List Loc) (ls : Array Slot), Dy G S s H locs → lv_has ls 4 [(0, .ref (gR G 142)), (1, .int l1)] → r2 l1 S = some res → W p l e (rmL 3 0 0) s m args below meth c H locs 0 0 (MQ below (QV G res) args s 0 0 (Ab G)) (F0 m 2 ls [])) (hr14 : ∀ (l1 : Int32) (l2 : Int32) (S : St) (res : St) (H : Heap) (locs : List Loc) (ls : Array Slot), Dy G S s H locs → lv_has ls 4 [(0, .ref (gR G 142)), (1, .int l1), (2, .int l2)] → r14 l1 l2 S = some res → W p l e (rmL 3 0 0) s m args below meth c H locs 0 0 (MQ below (QV G res) args s 0 0 (Ab G)) (F0 m 14 ls [])) {l1 : Int32} {l2 : Int32} {S : St} {res : St} {H : Heap} {locs : List Loc} {ls : Array Slot}  (hd : Dy G S s H locs) (hl : lv_has ls 4 [(0, .ref (gR G 142)), (1, .int l1), (2, .int l2)]) (h : KX10_tellFars_14 r2 r14 l1 l2 S = some res) : W p l e (rmL 3 0 0) s m args below meth c H locs 0 0 (MQ below (QV G res) args s 0 0 (Ab G)) (F0 m 14 ls []) := by
  unfold KX10_tellFars_14 at h
  have hx := C.1.1
  have hb := C.1.2.1
  refine lv_iload_n hx hb dX10_tellFars_14 rfl (lv_at hl 2 rfl) ?_
  refine lv_aload_n hx hb dX10_tellFars_15 rfl (lv_at hl 0 rfl) ?_
  refine gX10_39 C hd (rfl : kd 142 = 10) (q := 145) rfl dX10_tellFars_16 (fun y1 => ?_)
  refine lv_iconst (v := 0) hx hb dX10_tellFars_19 (by decide) ?_
  refine R_iald C hd y1 h dX10_tellFars_20 (fun x2 h => ?_)
  refine lv_icmp_ge (tgt := 80) hx hb dX10_tellFars_21 (by decide) (fun c3 => ?_) (fun c3 => ?_)
  · rw [if_pos c3] at h
    refine R_vi h (fun x4 ex4 h => ?_)
    refine lv_iinc (v := x4) (lv' := [(1, .int x4), (0, .ref (gR G 142)), (2, .int l2)]) hx hb dX10_tellFars_80 hl (k := 1) rfl (by rw [ex4]; rfl) (by decide) rfl (fun ls hl => ?_)
    refine lv_goto (tgt := 2) hx hb dX10_tellFars_83 (by decide) ?_
    exact hr2 x4 _ _ _ _ _  hd (lv_sub hl [1, 0] rfl) h
  · rw [if_neg c3] at h
    refine lv_aload_n hx hb dX10_tellFars_24 rfl (lv_at hl 0 rfl) ?_
    refine gX10_98 C hd (rfl : kd 142 = 10) (q := 164) rfl dX10_tellFars_25 (fun y5 => ?_)
    refine lv_bipush (v := 8) hx hb dX10_tellFars_28 (by decide) ?_
    refine lv_iload_n hx hb dX10_tellFars_30 rfl (lv_at hl 1 rfl) ?_
    refine lv_imul hx hb dX10_tellFars_31 ?_
    refine lv_iload_n hx hb dX10_tellFars_32 rfl (lv_at hl 2 rfl) ?_
    refine lv_iadd hx hb dX10_tellFars_33 ?_
    refine lv_iload_n hx hb dX10_tellFars_34 rfl (lv_at hl 1 rfl) ?_
    refine lv_iload_n hx hb dX10_tellFars_35 rfl (lv_at hl 2 rfl) ?_
    refine lv_icmp_ne (tgt := 43) hx hb dX10_tellFars_36 (by decide) (fun c6 => ?_) (fun c6 => ?_)
    · rw [if_neg c6] at h
      refine lv_aload_n hx hb dX10_tellFars_43 rfl (lv_at hl 0 rfl) ?_
      refine gX10_50 C hd (rfl : kd 142 = 10) (q := 149) rfl dX10_tellFars_44 (fun y7 => ?_)
      refine lv_bipush (v := 8) hx hb dX10_tellFars_47 (by decide) ?_
      refine lv_iload_n hx hb dX10_tellFars_49 rfl (lv_at hl 1 rfl) ?_
      refine lv_imul hx hb dX10_tellFars_50 ?_
      refine lv_iload_n hx hb dX10_tellFars_51 rfl (lv_at hl 2 rfl) ?_
      refine lv_iadd hx hb dX10_tellFars_52 ?_
      refine R_iald C hd y7 h dX10_tellFars_53 (fun x8 h => ?_)
      refine lv_if_le (tgt := 71) hx hb dX10_tellFars_54 (by decide) (fun c9 => ?_) (fun c9 => ?_)
      · rw [if_pos c9] at h
        refine lv_ldc hx hb C.1.2.2.2.1 (C.1.2.2.2.2 _ kcX10_203) dX10_tellFars_71 ?_
        exact sBX10_tellFars_73 C hr hr2 hr14  hd (lv_sub hl [0, 1, 2] rfl) h
      · rw [if_neg c9] at h
        refine lv_aload_n hx hb dX10_tellFars_57 rfl (lv_at hl 0 rfl) ?_
        refine gX10_50 C hd (rfl : kd 142 = 10) (q := 149) rfl dX10_tellFars_58 (fun y10 => ?_)
        refine lv_bipush (v := 8) hx hb dX10_tellFars_61 (by decide) ?_
        refine lv_iload_n hx hb dX10_tellFars_63 rfl (lv_at hl 1 rfl) ?_
        refine lv_imul hx hb dX10_tellFars_64 ?_
        refine lv_iload_n hx hb dX10_tellFars_65 rfl (lv_at hl 2 rfl) ?_
        refine lv_iadd hx hb dX10_tellFars_66 ?_
        refine R_iald C hd y10 h dX10_tellFars_67 (fun x11 h => ?_)
        refine lv_goto (tgt := 73) hx hb dX10_tellFars_68 (by decide) ?_
        exact sBX10_tellFars_73 C hr hr2 hr14  hd (lv_sub hl [0, 1, 2] rfl) h
    · rw [if_pos c6] at h
      refine lv_iconst (v := 0) hx hb dX10_tellFars_39 (by decide) ?_
      refine lv_goto (tgt := 73) hx hb dX10_tellFars_40 (by decide) ?_
      exact sBX10_tellFars_73 C hr hr2 hr14  hd (lv_sub hl [0, 1, 2] rfl) h
def LX10_tellFars_14 (r2 : Int32 → St → Option St) : Nat → Int32 → Int32 → St → Option St
  | 0 => fun _ _ _ => none
  | n + 1 => fun l1 l2 S => KX10_tellFars_14 r2 (LX10_tellFars_14 r2 n) l1 l2 S
theorem sLX10_tellFars_14 (C : Cx p s m args meth c cX10_tellFars 4 RX10 G) (hr : meth.sig.returnType = none) {r2 : Int32 → St → Option St} (hr2 : ∀ (l1 : Int32) (S : St) (res : St) (H : Heap) (locs : List Loc) (ls : Array Slot), Dy G S s H locs → lv_has ls 4 [(0, .ref (gR G 142)), (1, .int l1)] → r2 l1 S = some res → W p l e (rmL 3 0 0) s m args below meth c H locs 0 0 (MQ below (QV G res) args s 0 0 (Ab G)) (F0 m 2 ls [])) : ∀ (n : Nat) (l1 : Int32) (l2 : Int32) (S : St) (res : St) (H : Heap) (locs : List Loc) (ls : Array Slot), Dy G S s H locs → lv_has ls 4 [(0, .ref (gR G 142)), (1, .int l1), (2, .int l2)] → LX10_tellFars_14 r2 n l1 l2 S = some res → W p l e (rmL 3 0 0) s m args below meth c H locs 0 0 (MQ below (QV G res) args s 0 0 (Ab G)) (F0 m 14 ls []) := by
  intro n
  induction n with
  | zero => intro l1 l2 S res H locs ls  hd hl h; cases h
  | succ n ih =>
    intro l1 l2 S res H locs ls  hd hl h
    exact sKX10_tellFars_14 C hr hr2 ih  hd hl h
def KX10_tellFars_2 (r2 : Int32 → St → Option St) (l1 : Int32) (S : St) : Option St :=
  rd S 145 0 fun x2 => (if x2 ≤ l1 then (LX10_tellFars_88 FU 0 S) else (LX10_tellFars_14 r2 FU l1 0 S))
set_option maxHeartbeats 4000000 in
set_option maxRecDepth 20000 in
theorem sKX10_tellFars_2 (C : Cx p s m args meth c cX10_tellFars 4 RX10 G) (hr : meth.sig.returnType = none) {r2 : Int32 → St → Option St} (hr2 : ∀ (l1 : Int32) (S : St) (res : St) (H : Heap) (locs : List Loc) (ls : Array Slot), Dy G S s H locs → lv_has ls 4 [(0, .ref (gR G 142)), (1, .int l1)] → r2 l1 S = some res → W p l e (rmL 3 0 0) s m args below meth c H locs 0 0 (MQ below (QV G res) args s 0 0 (Ab G)) (F0 m 2 ls [])) {l1 : Int32} {S : St} {res : St} {H : Heap} {locs : List Loc} {ls : Array Slot}  (hd : Dy G S s H locs) (hl : lv_has ls 4 [(0, .ref (gR G 142)), (1, .int l1)]) (h : KX10_tellFars_2 r2 l1 S = some res) : W p l e (rmL 3 0 0) s m args below meth c H locs 0 0 (MQ below (QV G res) args s 0 0 (Ab G)) (F0 m 2 ls []) := by
  unfold KX10_tellFars_2 at h
  have hx := C.1.1
  have hb := C.1.2.1
  refine lv_iload_n hx hb dX10_tellFars_2 rfl (lv_at hl 1 rfl) ?_
  refine lv_aload_n hx hb dX10_tellFars_3 rfl (lv_at hl 0 rfl) ?_
  refine gX10_39 C hd (rfl : kd 142 = 10) (q := 145) rfl dX10_tellFars_4 (fun y1 => ?_)
  refine lv_iconst (v := 0) hx hb dX10_tellFars_7 (by decide) ?_
  refine R_iald C hd y1 h dX10_tellFars_8 (fun x2 h => ?_)
  refine lv_icmp_ge (tgt := 86) hx hb dX10_tellFars_9 (by decide) (fun c3 => ?_) (fun c3 => ?_)
  · rw [if_pos c3] at h
    refine lv_iconst (v := 0) hx hb dX10_tellFars_86 (by decide) ?_
    refine lv_istore_n (lv' := [(1, .int 0), (0, .ref (gR G 142))]) hx hb dX10_tellFars_87 rfl hl (by decide) rfl (fun ls hl => ?_)
    exact sLX10_tellFars_88 C hr _ 0 _ _ _ _ _  hd (lv_sub hl [1, 0] rfl) h
  · rw [if_neg c3] at h
    refine lv_iconst (v := 0) hx hb dX10_tellFars_12 (by decide) ?_
    refine lv_istore_n (lv' := [(2, .int 0), (0, .ref (gR G 142)), (1, .int l1)]) hx hb dX10_tellFars_13 rfl hl (by decide) rfl (fun ls hl => ?_)
    exact sLX10_tellFars_14 C hr hr2 _ l1 0 _ _ _ _ _  hd (lv_sub hl [1, 2, 0] rfl) h
def LX10_tellFars_2 : Nat → Int32 → St → Option St
  | 0 => fun _ _ => none
  | n + 1 => fun l1 S => KX10_tellFars_2 (LX10_tellFars_2 n) l1 S
theorem sLX10_tellFars_2 (C : Cx p s m args meth c cX10_tellFars 4 RX10 G) (hr : meth.sig.returnType = none) : ∀ (n : Nat) (l1 : Int32) (S : St) (res : St) (H : Heap) (locs : List Loc) (ls : Array Slot), Dy G S s H locs → lv_has ls 4 [(0, .ref (gR G 142)), (1, .int l1)] → LX10_tellFars_2 n l1 S = some res → W p l e (rmL 3 0 0) s m args below meth c H locs 0 0 (MQ below (QV G res) args s 0 0 (Ab G)) (F0 m 2 ls []) := by
  intro n
  induction n with
  | zero => intro l1 S res H locs ls  hd hl h; cases h
  | succ n ih =>
    intro l1 S res H locs ls  hd hl h
    exact sKX10_tellFars_2 C hr ih  hd hl h
def fX10_tellFars  (S : St) : Option St :=
  (LX10_tellFars_2 FU 0 S)
set_option maxHeartbeats 4000000 in
set_option maxRecDepth 20000 in
theorem sfX10_tellFars (C : Cx p s m args meth c cX10_tellFars 4 RX10 G) (hr : meth.sig.returnType = none)  {S : St} {res : St} {H : Heap} {locs : List Loc} {ls : Array Slot}  (hd : Dy G S s H locs) (hl : lv_has ls 4 [(0, .ref (gR G 142))]) (h : fX10_tellFars  S = some res) : W p l e (rmL 3 0 0) s m args below meth c H locs 0 0 (MQ below (QV G res) args s 0 0 (Ab G)) (F0 m 0 ls []) := by
  unfold fX10_tellFars at h
  have hx := C.1.1
  have hb := C.1.2.1
  refine lv_iconst (v := 0) hx hb dX10_tellFars_0 (by decide) ?_
  refine lv_istore_n (lv' := [(1, .int 0), (0, .ref (gR G 142))]) hx hb dX10_tellFars_1 rfl hl (by decide) rfl (fun ls hl => ?_)
  exact sLX10_tellFars_2 C hr _ 0 _ _ _ _ _  hd (lv_sub hl [1, 0] rfl) h
set_option maxRecDepth 20000 in
theorem ccX10_tellFars (l : Launch) (G : Gt)  {S : St} {res : St}  (h : fX10_tellFars  S = some res) : Met l yX10_tellFars (wm yX10_tellFars cX10_tellFars 4 (none)) (rmL 3 0 0) (PcW G S [.ref (gR G 142)]) (QV G res) 0 0 (Ab G) := by
  refine Met.ofW (cc := cX10_tellFars) (maxL := 4) (ret := none) (by decide) rfl ?_
  intro p e s m args below meth c s₁ B hml hv
  obtain ⟨rfl, hK, hP⟩ := hv
  have C : Cx p s m _ meth c cX10_tellFars 4 RX10 G := ⟨⟨B.exec, B.bytes, hml, findClass_of_methodNamed B.named, fun w hw => atoms_spec (ws := wm yX10_tellFars cX10_tellFars 4 (none)) B.pre w (List.mem_cons_of_mem _ hw)⟩, B.notSynchronized, hK⟩
  have hl := lv_entry ([.ref (gR G 142)]) (n := 4) (Nat.le_of_ble_eq_true rfl)
  rw [lg_entry_eq]
  generalize (lg_sl ([.ref (gR G 142)]) ++ List.replicate (4 - (lg_sl ([.ref (gR G 142)])).length) Slot.unset).toArray = ls at hl ⊢
  exact sfX10_tellFars C B.returns  ⟨hP, va_S.rf⟩ hl h
def BX10_takeOver_229 (r198 : Int32 → St → Option St) (l1 : Int32) (s1 : Int32) (s2 : Int32) (S : St) : Option St :=
  wr S 162 s1 s2 fun S => vl (l1 + 1) fun x1 => (r198 x1 S)
set_option maxHeartbeats 4000000 in
set_option maxRecDepth 20000 in
theorem sBX10_takeOver_229 (C : Cx p s m args meth c cX10_takeOver 3 RX10 G) (hr : meth.sig.returnType = none) {r198 : Int32 → St → Option St} (hr198 : ∀ (l1 : Int32) (S : St) (res : St) (H : Heap) (locs : List Loc) (ls : Array Slot), Dy G S s H locs → lv_has ls 3 [(0, .ref (gR G 142)), (1, .int l1)] → r198 l1 S = some res → W p l e (rmL 4 0 0) s m args below meth c H locs 0 0 (MQ below (QV G res) args s 0 0 (Ab G)) (F0 m 198 ls [])) {l1 : Int32} {s1 : Int32} {s2 : Int32} {S : St} {res : St} {H : Heap} {locs : List Loc} {ls : Array Slot}  (hd : Dy G S s H locs) (hl : lv_has ls 3 [(0, .ref (gR G 142)), (1, .int l1)]) (h : BX10_takeOver_229 r198 l1 s1 s2 S = some res) : W p l e (rmL 4 0 0) s m args below meth c H locs 0 0 (MQ below (QV G res) args s 0 0 (Ab G)) (F0 m 229 ls [.int s2, .int s1, .ref (gR G 162)]) := by
  unfold BX10_takeOver_229 at h
  have hx := C.1.1
  have hb := C.1.2.1
  refine R_iast C hd (rfl : kd 162 = 20) h dX10_takeOver_229 (fun S H locs hd h => ?_)
  refine R_vi h (fun x1 ex1 h => ?_)
  refine lv_iinc (v := x1) (lv' := [(1, .int x1), (0, .ref (gR G 142))]) hx hb dX10_takeOver_230 hl (k := 1) rfl (by rw [ex1]; rfl) (by decide) rfl (fun ls hl => ?_)
  refine lv_goto (tgt := 198) hx hb dX10_takeOver_233 (by decide) ?_
  exact hr198 x1 _ _ _ _ _  hd (lv_sub hl [1, 0] rfl) h
def KX10_takeOver_198 (r198 : Int32 → St → Option St) (l1 : Int32) (S : St) : Option St :=
  (if 8 ≤ l1 then bv (fX10_tellFars  S) fun S => pf S 142 36 0 fun S => pf S 142 37 0 fun S => pz S 142 57 0 fun S => some S else rd S 145 0 fun x4 => (if x4 ≤ l1 then (BX10_takeOver_229 r198 l1 l1 ((-1)) S) else rd S 153 l1 fun x7 => (BX10_takeOver_229 r198 l1 l1 x7 S)))
set_option maxHeartbeats 4000000 in
set_option maxRecDepth 20000 in
theorem sKX10_takeOver_198 (C : Cx p s m args meth c cX10_takeOver 3 RX10 G) (hr : meth.sig.returnType = none) {r198 : Int32 → St → Option St} (hr198 : ∀ (l1 : Int32) (S : St) (res : St) (H : Heap) (locs : List Loc) (ls : Array Slot), Dy G S s H locs → lv_has ls 3 [(0, .ref (gR G 142)), (1, .int l1)] → r198 l1 S = some res → W p l e (rmL 4 0 0) s m args below meth c H locs 0 0 (MQ below (QV G res) args s 0 0 (Ab G)) (F0 m 198 ls [])) {l1 : Int32} {S : St} {res : St} {H : Heap} {locs : List Loc} {ls : Array Slot}  (hd : Dy G S s H locs) (hl : lv_has ls 3 [(0, .ref (gR G 142)), (1, .int l1)]) (h : KX10_takeOver_198 r198 l1 S = some res) : W p l e (rmL 4 0 0) s m args below meth c H locs 0 0 (MQ below (QV G res) args s 0 0 (Ab G)) (F0 m 198 ls []) := by
  unfold KX10_takeOver_198 at h
  have hx := C.1.1
  have hb := C.1.2.1
  refine lv_iload_n hx hb dX10_takeOver_198 rfl (lv_at hl 1 rfl) ?_
  refine lv_bipush (v := 8) hx hb dX10_takeOver_199 (by decide) ?_
  refine lv_icmp_ge (tgt := 236) hx hb dX10_takeOver_201 (by decide) (fun c1 => ?_) (fun c1 => ?_)
  · rw [if_pos c1] at h
    refine lv_aload_n hx hb dX10_takeOver_236 rfl (lv_at hl 0 rfl) ?_
    obtain ⟨S1, hc, h⟩ := bv_some h
    refine R_cVv C hd (ccX10_tellFars l G  hc) kX10_343 rfl (by decide) (rfl : kd 142 = 10) hl.1 ⟨by decide, by decide⟩ rfl rfl (Nat.le_of_ble_eq_true rfl) dX10_takeOver_237 ⟨Nat.zero_le _, Nat.zero_le _⟩ (fun H locs hd => ?_)
    generalize S1 = S at h hd
    refine lv_aload_n hx hb dX10_takeOver_240 rfl (lv_at hl 0 rfl) ?_
    refine lv_iconst (v := 0) hx hb dX10_takeOver_241 (by decide) ?_
    refine pX10_346 C hd (rfl : kd 142 = 10) h dX10_takeOver_242 (fun S H locs hd h => ?_)
    refine lv_aload_n hx hb dX10_takeOver_245 rfl (lv_at hl 0 rfl) ?_
    refine lv_iconst (v := 0) hx hb dX10_takeOver_246 (by decide) ?_
    refine pX10_349 C hd (rfl : kd 142 = 10) h dX10_takeOver_247 (fun S H locs hd h => ?_)
    refine lv_aload_n hx hb dX10_takeOver_250 rfl (lv_at hl 0 rfl) ?_
    refine lv_iconst (v := 0) hx hb dX10_takeOver_251 (by decide) ?_
    refine pX10_352 C hd (rfl : kd 142 = 10) h dX10_takeOver_252 (fun S H locs hd h => ?_)
    exact R_vret C hr hd h dX10_takeOver_255
  · rw [if_neg c1] at h
    refine lv_aload_n hx hb dX10_takeOver_204 rfl (lv_at hl 0 rfl) ?_
    refine gX10_92 C hd (rfl : kd 142 = 10) (q := 162) rfl dX10_takeOver_205 (fun y2 => ?_)
    refine lv_iload_n hx hb dX10_takeOver_208 rfl (lv_at hl 1 rfl) ?_
    refine lv_iload_n hx hb dX10_takeOver_209 rfl (lv_at hl 1 rfl) ?_
    refine lv_aload_n hx hb dX10_takeOver_210 rfl (lv_at hl 0 rfl) ?_
    refine gX10_39 C hd (rfl : kd 142 = 10) (q := 145) rfl dX10_takeOver_211 (fun y3 => ?_)
    refine lv_iconst (v := 0) hx hb dX10_takeOver_214 (by decide) ?_
    refine R_iald C hd y3 h dX10_takeOver_215 (fun x4 h => ?_)
    refine lv_icmp_ge (tgt := 228) hx hb dX10_takeOver_216 (by decide) (fun c5 => ?_) (fun c5 => ?_)
    · rw [if_pos c5] at h
      refine lv_iconst (v := -1) hx hb dX10_takeOver_228 (by decide) ?_
      exact sBX10_takeOver_229 C hr hr198  hd (lv_sub hl [0, 1] rfl) h
    · rw [if_neg c5] at h
      refine lv_aload_n hx hb dX10_takeOver_219 rfl (lv_at hl 0 rfl) ?_
      refine gX10_62 C hd (rfl : kd 142 = 10) (q := 153) rfl dX10_takeOver_220 (fun y6 => ?_)
      refine lv_iload_n hx hb dX10_takeOver_223 rfl (lv_at hl 1 rfl) ?_
      refine R_iald C hd y6 h dX10_takeOver_224 (fun x7 h => ?_)
      refine lv_goto (tgt := 229) hx hb dX10_takeOver_225 (by decide) ?_
      exact sBX10_takeOver_229 C hr hr198  hd (lv_sub hl [0, 1] rfl) h
def LX10_takeOver_198 : Nat → Int32 → St → Option St
  | 0 => fun _ _ => none
  | n + 1 => fun l1 S => KX10_takeOver_198 (LX10_takeOver_198 n) l1 S
theorem sLX10_takeOver_198 (C : Cx p s m args meth c cX10_takeOver 3 RX10 G) (hr : meth.sig.returnType = none) : ∀ (n : Nat) (l1 : Int32) (S : St) (res : St) (H : Heap) (locs : List Loc) (ls : Array Slot), Dy G S s H locs → lv_has ls 3 [(0, .ref (gR G 142)), (1, .int l1)] → LX10_takeOver_198 n l1 S = some res → W p l e (rmL 4 0 0) s m args below meth c H locs 0 0 (MQ below (QV G res) args s 0 0 (Ab G)) (F0 m 198 ls []) := by
  intro n
  induction n with
  | zero => intro l1 S res H locs ls  hd hl h; cases h
  | succ n ih =>
    intro l1 S res H locs ls  hd hl h
    exact sKX10_takeOver_198 C hr ih  hd hl h
def KX10_takeOver_156 (r89 : Int32 → St → Option St) (r156 : Int32 → Int32 → St → Option St) (l1 : Int32) (l2 : Int32) (S : St) : Option St :=
  (if 6 ≤ l2 then vl (l1 + 1) fun x2 => (r89 x2 S) else rd S 150 ((6 * l1) + l2) fun x5 => wr S 161 ((6 * l1) + l2) x5 fun S => vl (l2 + 1) fun x6 => (r156 l1 x6 S))
set_option maxHeartbeats 4000000 in
set_option maxRecDepth 20000 in
theorem sKX10_takeOver_156 (C : Cx p s m args meth c cX10_takeOver 3 RX10 G) (hr : meth.sig.returnType = none) {r89 : Int32 → St → Option St} {r156 : Int32 → Int32 → St → Option St} (hr89 : ∀ (l1 : Int32) (S : St) (res : St) (H : Heap) (locs : List Loc) (ls : Array Slot), Dy G S s H locs → lv_has ls 3 [(0, .ref (gR G 142)), (1, .int l1)] → r89 l1 S = some res → W p l e (rmL 4 0 0) s m args below meth c H locs 0 0 (MQ below (QV G res) args s 0 0 (Ab G)) (F0 m 89 ls [])) (hr156 : ∀ (l1 : Int32) (l2 : Int32) (S : St) (res : St) (H : Heap) (locs : List Loc) (ls : Array Slot), Dy G S s H locs → lv_has ls 3 [(0, .ref (gR G 142)), (1, .int l1), (2, .int l2)] → r156 l1 l2 S = some res → W p l e (rmL 4 0 0) s m args below meth c H locs 0 0 (MQ below (QV G res) args s 0 0 (Ab G)) (F0 m 156 ls [])) {l1 : Int32} {l2 : Int32} {S : St} {res : St} {H : Heap} {locs : List Loc} {ls : Array Slot}  (hd : Dy G S s H locs) (hl : lv_has ls 3 [(0, .ref (gR G 142)), (1, .int l1), (2, .int l2)]) (h : KX10_takeOver_156 r89 r156 l1 l2 S = some res) : W p l e (rmL 4 0 0) s m args below meth c H locs 0 0 (MQ below (QV G res) args s 0 0 (Ab G)) (F0 m 156 ls []) := by
  unfold KX10_takeOver_156 at h
  have hx := C.1.1
  have hb := C.1.2.1
  refine lv_iload_n hx hb dX10_takeOver_156 rfl (lv_at hl 2 rfl) ?_
  refine lv_bipush (v := 6) hx hb dX10_takeOver_157 (by decide) ?_
  refine lv_icmp_ge (tgt := 190) hx hb dX10_takeOver_159 (by decide) (fun c1 => ?_) (fun c1 => ?_)
  · rw [if_pos c1] at h
    refine R_vi h (fun x2 ex2 h => ?_)
    refine lv_iinc (v := x2) (lv' := [(1, .int x2), (0, .ref (gR G 142)), (2, .int l2)]) hx hb dX10_takeOver_190 hl (k := 1) rfl (by rw [ex2]; rfl) (by decide) rfl (fun ls hl => ?_)
    refine lv_goto (tgt := 89) hx hb dX10_takeOver_193 (by decide) ?_
    exact hr89 x2 _ _ _ _ _  hd (lv_sub hl [1, 0] rfl) h
  · rw [if_neg c1] at h
    refine lv_aload_n hx hb dX10_takeOver_162 rfl (lv_at hl 0 rfl) ?_
    refine gX10_89 C hd (rfl : kd 142 = 10) (q := 161) rfl dX10_takeOver_163 (fun y3 => ?_)
    refine lv_bipush (v := 6) hx hb dX10_takeOver_166 (by decide) ?_
    refine lv_iload_n hx hb dX10_takeOver_168 rfl (lv_at hl 1 rfl) ?_
    refine lv_imul hx hb dX10_takeOver_169 ?_
    refine lv_iload_n hx hb dX10_takeOver_170 rfl (lv_at hl 2 rfl) ?_
    refine lv_iadd hx hb dX10_takeOver_171 ?_
    refine lv_aload_n hx hb dX10_takeOver_172 rfl (lv_at hl 0 rfl) ?_
    refine gX10_53 C hd (rfl : kd 142 = 10) (q := 150) rfl dX10_takeOver_173 (fun y4 => ?_)
    refine lv_bipush (v := 6) hx hb dX10_takeOver_176 (by decide) ?_
    refine lv_iload_n hx hb dX10_takeOver_178 rfl (lv_at hl 1 rfl) ?_
    refine lv_imul hx hb dX10_takeOver_179 ?_
    refine lv_iload_n hx hb dX10_takeOver_180 rfl (lv_at hl 2 rfl) ?_
    refine lv_iadd hx hb dX10_takeOver_181 ?_
    refine R_iald C hd y4 h dX10_takeOver_182 (fun x5 h => ?_)
    refine R_iast C hd y3 h dX10_takeOver_183 (fun S H locs hd h => ?_)
    refine R_vi h (fun x6 ex6 h => ?_)
    refine lv_iinc (v := x6) (lv' := [(2, .int x6), (0, .ref (gR G 142)), (1, .int l1)]) hx hb dX10_takeOver_184 hl (k := 2) rfl (by rw [ex6]; rfl) (by decide) rfl (fun ls hl => ?_)
    refine lv_goto (tgt := 156) hx hb dX10_takeOver_187 (by decide) ?_
    exact hr156 l1 x6 _ _ _ _ _  hd (lv_sub hl [1, 2, 0] rfl) h
def LX10_takeOver_156 (r89 : Int32 → St → Option St) : Nat → Int32 → Int32 → St → Option St
  | 0 => fun _ _ _ => none
  | n + 1 => fun l1 l2 S => KX10_takeOver_156 r89 (LX10_takeOver_156 r89 n) l1 l2 S
theorem sLX10_takeOver_156 (C : Cx p s m args meth c cX10_takeOver 3 RX10 G) (hr : meth.sig.returnType = none) {r89 : Int32 → St → Option St} (hr89 : ∀ (l1 : Int32) (S : St) (res : St) (H : Heap) (locs : List Loc) (ls : Array Slot), Dy G S s H locs → lv_has ls 3 [(0, .ref (gR G 142)), (1, .int l1)] → r89 l1 S = some res → W p l e (rmL 4 0 0) s m args below meth c H locs 0 0 (MQ below (QV G res) args s 0 0 (Ab G)) (F0 m 89 ls [])) : ∀ (n : Nat) (l1 : Int32) (l2 : Int32) (S : St) (res : St) (H : Heap) (locs : List Loc) (ls : Array Slot), Dy G S s H locs → lv_has ls 3 [(0, .ref (gR G 142)), (1, .int l1), (2, .int l2)] → LX10_takeOver_156 r89 n l1 l2 S = some res → W p l e (rmL 4 0 0) s m args below meth c H locs 0 0 (MQ below (QV G res) args s 0 0 (Ab G)) (F0 m 156 ls []) := by
  intro n
  induction n with
  | zero => intro l1 l2 S res H locs ls  hd hl h; cases h
  | succ n ih =>
    intro l1 l2 S res H locs ls  hd hl h
    exact sKX10_takeOver_156 C hr hr89 ih  hd hl h
def KX10_takeOver_130 (r89 : Int32 → St → Option St) (r130 : Int32 → Int32 → St → Option St) (l1 : Int32) (l2 : Int32) (S : St) : Option St :=
  (if 8 ≤ l2 then (LX10_takeOver_156 r89 FU l1 0 S) else wr S 160 ((8 * l1) + l2) 0 fun S => vl (l2 + 1) fun x3 => (r130 l1 x3 S))
set_option maxHeartbeats 4000000 in
set_option maxRecDepth 20000 in
theorem sKX10_takeOver_130 (C : Cx p s m args meth c cX10_takeOver 3 RX10 G) (hr : meth.sig.returnType = none) {r89 : Int32 → St → Option St} {r130 : Int32 → Int32 → St → Option St} (hr89 : ∀ (l1 : Int32) (S : St) (res : St) (H : Heap) (locs : List Loc) (ls : Array Slot), Dy G S s H locs → lv_has ls 3 [(0, .ref (gR G 142)), (1, .int l1)] → r89 l1 S = some res → W p l e (rmL 4 0 0) s m args below meth c H locs 0 0 (MQ below (QV G res) args s 0 0 (Ab G)) (F0 m 89 ls [])) (hr130 : ∀ (l1 : Int32) (l2 : Int32) (S : St) (res : St) (H : Heap) (locs : List Loc) (ls : Array Slot), Dy G S s H locs → lv_has ls 3 [(0, .ref (gR G 142)), (1, .int l1), (2, .int l2)] → r130 l1 l2 S = some res → W p l e (rmL 4 0 0) s m args below meth c H locs 0 0 (MQ below (QV G res) args s 0 0 (Ab G)) (F0 m 130 ls [])) {l1 : Int32} {l2 : Int32} {S : St} {res : St} {H : Heap} {locs : List Loc} {ls : Array Slot}  (hd : Dy G S s H locs) (hl : lv_has ls 3 [(0, .ref (gR G 142)), (1, .int l1), (2, .int l2)]) (h : KX10_takeOver_130 r89 r130 l1 l2 S = some res) : W p l e (rmL 4 0 0) s m args below meth c H locs 0 0 (MQ below (QV G res) args s 0 0 (Ab G)) (F0 m 130 ls []) := by
  unfold KX10_takeOver_130 at h
  have hx := C.1.1
  have hb := C.1.2.1
  refine lv_iload_n hx hb dX10_takeOver_130 rfl (lv_at hl 2 rfl) ?_
  refine lv_bipush (v := 8) hx hb dX10_takeOver_131 (by decide) ?_
  refine lv_icmp_ge (tgt := 154) hx hb dX10_takeOver_133 (by decide) (fun c1 => ?_) (fun c1 => ?_)
  · rw [if_pos c1] at h
    refine lv_iconst (v := 0) hx hb dX10_takeOver_154 (by decide) ?_
    refine lv_istore_n (lv' := [(2, .int 0), (0, .ref (gR G 142)), (1, .int l1)]) hx hb dX10_takeOver_155 rfl hl (by decide) rfl (fun ls hl => ?_)
    exact sLX10_takeOver_156 C hr hr89 _ l1 0 _ _ _ _ _  hd (lv_sub hl [1, 2, 0] rfl) h
  · rw [if_neg c1] at h
    refine lv_aload_n hx hb dX10_takeOver_136 rfl (lv_at hl 0 rfl) ?_
    refine gX10_86 C hd (rfl : kd 142 = 10) (q := 160) rfl dX10_takeOver_137 (fun y2 => ?_)
    refine lv_bipush (v := 8) hx hb dX10_takeOver_140 (by decide) ?_
    refine lv_iload_n hx hb dX10_takeOver_142 rfl (lv_at hl 1 rfl) ?_
    refine lv_imul hx hb dX10_takeOver_143 ?_
    refine lv_iload_n hx hb dX10_takeOver_144 rfl (lv_at hl 2 rfl) ?_
    refine lv_iadd hx hb dX10_takeOver_145 ?_
    refine lv_iconst (v := 0) hx hb dX10_takeOver_146 (by decide) ?_
    refine R_iast C hd y2 h dX10_takeOver_147 (fun S H locs hd h => ?_)
    refine R_vi h (fun x3 ex3 h => ?_)
    refine lv_iinc (v := x3) (lv' := [(2, .int x3), (0, .ref (gR G 142)), (1, .int l1)]) hx hb dX10_takeOver_148 hl (k := 2) rfl (by rw [ex3]; rfl) (by decide) rfl (fun ls hl => ?_)
    refine lv_goto (tgt := 130) hx hb dX10_takeOver_151 (by decide) ?_
    exact hr130 l1 x3 _ _ _ _ _  hd (lv_sub hl [1, 2, 0] rfl) h
def LX10_takeOver_130 (r89 : Int32 → St → Option St) : Nat → Int32 → Int32 → St → Option St
  | 0 => fun _ _ _ => none
  | n + 1 => fun l1 l2 S => KX10_takeOver_130 r89 (LX10_takeOver_130 r89 n) l1 l2 S
theorem sLX10_takeOver_130 (C : Cx p s m args meth c cX10_takeOver 3 RX10 G) (hr : meth.sig.returnType = none) {r89 : Int32 → St → Option St} (hr89 : ∀ (l1 : Int32) (S : St) (res : St) (H : Heap) (locs : List Loc) (ls : Array Slot), Dy G S s H locs → lv_has ls 3 [(0, .ref (gR G 142)), (1, .int l1)] → r89 l1 S = some res → W p l e (rmL 4 0 0) s m args below meth c H locs 0 0 (MQ below (QV G res) args s 0 0 (Ab G)) (F0 m 89 ls [])) : ∀ (n : Nat) (l1 : Int32) (l2 : Int32) (S : St) (res : St) (H : Heap) (locs : List Loc) (ls : Array Slot), Dy G S s H locs → lv_has ls 3 [(0, .ref (gR G 142)), (1, .int l1), (2, .int l2)] → LX10_takeOver_130 r89 n l1 l2 S = some res → W p l e (rmL 4 0 0) s m args below meth c H locs 0 0 (MQ below (QV G res) args s 0 0 (Ab G)) (F0 m 130 ls []) := by
  intro n
  induction n with
  | zero => intro l1 l2 S res H locs ls  hd hl h; cases h
  | succ n ih =>
    intro l1 l2 S res H locs ls  hd hl h
    exact sKX10_takeOver_130 C hr hr89 ih  hd hl h
def BX10_takeOver_120 (r89 : Int32 → St → Option St) (l1 : Int32) (s1 : Int32) (s2 : Int32) (S : St) : Option St :=
  wr S 158 s1 s2 fun S => wr S 159 l1 0 fun S => (LX10_takeOver_130 r89 FU l1 0 S)
set_option maxHeartbeats 4000000 in
set_option maxRecDepth 20000 in
theorem sBX10_takeOver_120 (C : Cx p s m args meth c cX10_takeOver 3 RX10 G) (hr : meth.sig.returnType = none) {r89 : Int32 → St → Option St} (hr89 : ∀ (l1 : Int32) (S : St) (res : St) (H : Heap) (locs : List Loc) (ls : Array Slot), Dy G S s H locs → lv_has ls 3 [(0, .ref (gR G 142)), (1, .int l1)] → r89 l1 S = some res → W p l e (rmL 4 0 0) s m args below meth c H locs 0 0 (MQ below (QV G res) args s 0 0 (Ab G)) (F0 m 89 ls [])) {l1 : Int32} {s1 : Int32} {s2 : Int32} {S : St} {res : St} {H : Heap} {locs : List Loc} {ls : Array Slot}  (hd : Dy G S s H locs) (hl : lv_has ls 3 [(0, .ref (gR G 142)), (1, .int l1)]) (h : BX10_takeOver_120 r89 l1 s1 s2 S = some res) : W p l e (rmL 4 0 0) s m args below meth c H locs 0 0 (MQ below (QV G res) args s 0 0 (Ab G)) (F0 m 120 ls [.int s2, .int s1, .ref (gR G 158)]) := by
  unfold BX10_takeOver_120 at h
  have hx := C.1.1
  have hb := C.1.2.1
  refine R_iast C hd (rfl : kd 158 = 20) h dX10_takeOver_120 (fun S H locs hd h => ?_)
  refine lv_aload_n hx hb dX10_takeOver_121 rfl (lv_at hl 0 rfl) ?_
  refine gX10_83 C hd (rfl : kd 142 = 10) (q := 159) rfl dX10_takeOver_122 (fun y1 => ?_)
  refine lv_iload_n hx hb dX10_takeOver_125 rfl (lv_at hl 1 rfl) ?_
  refine lv_iconst (v := 0) hx hb dX10_takeOver_126 (by decide) ?_
  refine R_iast C hd y1 h dX10_takeOver_127 (fun S H locs hd h => ?_)
  refine lv_iconst (v := 0) hx hb dX10_takeOver_128 (by decide) ?_
  refine lv_istore_n (lv' := [(2, .int 0), (0, .ref (gR G 142)), (1, .int l1)]) hx hb dX10_takeOver_129 rfl hl (by decide) rfl (fun ls hl => ?_)
  exact sLX10_takeOver_130 C hr hr89 _ l1 0 _ _ _ _ _  hd (lv_sub hl [1, 2, 0] rfl) h
def KX10_takeOver_89 (r89 : Int32 → St → Option St) (l1 : Int32) (S : St) : Option St :=
  (if 6 ≤ l1 then (LX10_takeOver_198 FU 0 S) else rd S 145 2 fun x4 => (if x4 ≤ l1 then (BX10_takeOver_120 r89 l1 l1 0 S) else rd S 152 l1 fun x7 => (BX10_takeOver_120 r89 l1 l1 x7 S)))
set_option maxHeartbeats 4000000 in
set_option maxRecDepth 20000 in
theorem sKX10_takeOver_89 (C : Cx p s m args meth c cX10_takeOver 3 RX10 G) (hr : meth.sig.returnType = none) {r89 : Int32 → St → Option St} (hr89 : ∀ (l1 : Int32) (S : St) (res : St) (H : Heap) (locs : List Loc) (ls : Array Slot), Dy G S s H locs → lv_has ls 3 [(0, .ref (gR G 142)), (1, .int l1)] → r89 l1 S = some res → W p l e (rmL 4 0 0) s m args below meth c H locs 0 0 (MQ below (QV G res) args s 0 0 (Ab G)) (F0 m 89 ls [])) {l1 : Int32} {S : St} {res : St} {H : Heap} {locs : List Loc} {ls : Array Slot}  (hd : Dy G S s H locs) (hl : lv_has ls 3 [(0, .ref (gR G 142)), (1, .int l1)]) (h : KX10_takeOver_89 r89 l1 S = some res) : W p l e (rmL 4 0 0) s m args below meth c H locs 0 0 (MQ below (QV G res) args s 0 0 (Ab G)) (F0 m 89 ls []) := by
  unfold KX10_takeOver_89 at h
  have hx := C.1.1
  have hb := C.1.2.1
  refine lv_iload_n hx hb dX10_takeOver_89 rfl (lv_at hl 1 rfl) ?_
  refine lv_bipush (v := 6) hx hb dX10_takeOver_90 (by decide) ?_
  refine lv_icmp_ge (tgt := 196) hx hb dX10_takeOver_92 (by decide) (fun c1 => ?_) (fun c1 => ?_)
  · rw [if_pos c1] at h
    refine lv_iconst (v := 0) hx hb dX10_takeOver_196 (by decide) ?_
    refine lv_istore_n (lv' := [(1, .int 0), (0, .ref (gR G 142))]) hx hb dX10_takeOver_197 rfl hl (by decide) rfl (fun ls hl => ?_)
    exact sLX10_takeOver_198 C hr _ 0 _ _ _ _ _  hd (lv_sub hl [1, 0] rfl) h
  · rw [if_neg c1] at h
    refine lv_aload_n hx hb dX10_takeOver_95 rfl (lv_at hl 0 rfl) ?_
    refine gX10_81 C hd (rfl : kd 142 = 10) (q := 158) rfl dX10_takeOver_96 (fun y2 => ?_)
    refine lv_iload_n hx hb dX10_takeOver_99 rfl (lv_at hl 1 rfl) ?_
    refine lv_iload_n hx hb dX10_takeOver_100 rfl (lv_at hl 1 rfl) ?_
    refine lv_aload_n hx hb dX10_takeOver_101 rfl (lv_at hl 0 rfl) ?_
    refine gX10_39 C hd (rfl : kd 142 = 10) (q := 145) rfl dX10_takeOver_102 (fun y3 => ?_)
    refine lv_iconst (v := 2) hx hb dX10_takeOver_105 (by decide) ?_
    refine R_iald C hd y3 h dX10_takeOver_106 (fun x4 h => ?_)
    refine lv_icmp_ge (tgt := 119) hx hb dX10_takeOver_107 (by decide) (fun c5 => ?_) (fun c5 => ?_)
    · rw [if_pos c5] at h
      refine lv_iconst (v := 0) hx hb dX10_takeOver_119 (by decide) ?_
      exact sBX10_takeOver_120 C hr hr89  hd (lv_sub hl [0, 1] rfl) h
    · rw [if_neg c5] at h
      refine lv_aload_n hx hb dX10_takeOver_110 rfl (lv_at hl 0 rfl) ?_
      refine gX10_59 C hd (rfl : kd 142 = 10) (q := 152) rfl dX10_takeOver_111 (fun y6 => ?_)
      refine lv_iload_n hx hb dX10_takeOver_114 rfl (lv_at hl 1 rfl) ?_
      refine R_iald C hd y6 h dX10_takeOver_115 (fun x7 h => ?_)
      refine lv_goto (tgt := 120) hx hb dX10_takeOver_116 (by decide) ?_
      exact sBX10_takeOver_120 C hr hr89  hd (lv_sub hl [0, 1] rfl) h
def LX10_takeOver_89 : Nat → Int32 → St → Option St
  | 0 => fun _ _ => none
  | n + 1 => fun l1 S => KX10_takeOver_89 (LX10_takeOver_89 n) l1 S
theorem sLX10_takeOver_89 (C : Cx p s m args meth c cX10_takeOver 3 RX10 G) (hr : meth.sig.returnType = none) : ∀ (n : Nat) (l1 : Int32) (S : St) (res : St) (H : Heap) (locs : List Loc) (ls : Array Slot), Dy G S s H locs → lv_has ls 3 [(0, .ref (gR G 142)), (1, .int l1)] → LX10_takeOver_89 n l1 S = some res → W p l e (rmL 4 0 0) s m args below meth c H locs 0 0 (MQ below (QV G res) args s 0 0 (Ab G)) (F0 m 89 ls []) := by
  intro n
  induction n with
  | zero => intro l1 S res H locs ls  hd hl h; cases h
  | succ n ih =>
    intro l1 S res H locs ls  hd hl h
    exact sKX10_takeOver_89 C hr ih  hd hl h
def fX10_takeOver  (S : St) : Option St :=
  bv (fX10_takeHalf 145 S) fun S => bv (fX10_takeHalf 146 S) fun S => bv (fX10_takeHalf 147 S) fun S => bv (fX10_takeHalf 148 S) fun S => bv (fX10_takeHalf 149 S) fun S => bv (fX10_takeHalf 150 S) fun S => bv (fX10_takeHalf 151 S) fun S => bv (fX10_takeHalf 152 S) fun S => bv (fX10_takeHalf 153 S) fun S => bv (fX10_takeHalf 154 S) fun S => bv (fX10_takeHalf 155 S) fun S => pf S 142 34 0 fun S => pf S 142 35 0 fun S => (LX10_takeOver_89 FU 0 S)
set_option maxHeartbeats 4000000 in
set_option maxRecDepth 20000 in
theorem sfX10_takeOver (C : Cx p s m args meth c cX10_takeOver 3 RX10 G) (hr : meth.sig.returnType = none)  {S : St} {res : St} {H : Heap} {locs : List Loc} {ls : Array Slot}  (hd : Dy G S s H locs) (hl : lv_has ls 3 [(0, .ref (gR G 142))]) (h : fX10_takeOver  S = some res) : W p l e (rmL 4 0 0) s m args below meth c H locs 0 0 (MQ below (QV G res) args s 0 0 (Ab G)) (F0 m 0 ls []) := by
  unfold fX10_takeOver at h
  have hx := C.1.1
  have hb := C.1.2.1
  refine lv_aload_n hx hb dX10_takeOver_0 rfl (lv_at hl 0 rfl) ?_
  refine gX10_39 C hd (rfl : kd 142 = 10) (q := 145) rfl dX10_takeOver_1 (fun y1 => ?_)
  obtain ⟨S1, hc, h⟩ := bv_some h
  refine R_cSv C hd (ccX10_takeHalf l G y1 hc) kX10_334  hl.1 ⟨by decide, by decide⟩ rfl rfl (Nat.le_of_ble_eq_true rfl) dX10_takeOver_4 ⟨Nat.zero_le _, Nat.zero_le _⟩ (fun H locs hd => ?_)
  generalize S1 = S at h hd
  refine lv_aload_n hx hb dX10_takeOver_7 rfl (lv_at hl 0 rfl) ?_
  refine gX10_43 C hd (rfl : kd 142 = 10) (q := 146) rfl dX10_takeOver_8 (fun y2 => ?_)
  obtain ⟨S1, hc, h⟩ := bv_some h
  refine R_cSv C hd (ccX10_takeHalf l G y2 hc) kX10_334  hl.1 ⟨by decide, by decide⟩ rfl rfl (Nat.le_of_ble_eq_true rfl) dX10_takeOver_11 ⟨Nat.zero_le _, Nat.zero_le _⟩ (fun H locs hd => ?_)
  generalize S1 = S at h hd
  refine lv_aload_n hx hb dX10_takeOver_14 rfl (lv_at hl 0 rfl) ?_
  refine gX10_45 C hd (rfl : kd 142 = 10) (q := 147) rfl dX10_takeOver_15 (fun y3 => ?_)
  obtain ⟨S1, hc, h⟩ := bv_some h
  refine R_cSv C hd (ccX10_takeHalf l G y3 hc) kX10_334  hl.1 ⟨by decide, by decide⟩ rfl rfl (Nat.le_of_ble_eq_true rfl) dX10_takeOver_18 ⟨Nat.zero_le _, Nat.zero_le _⟩ (fun H locs hd => ?_)
  generalize S1 = S at h hd
  refine lv_aload_n hx hb dX10_takeOver_21 rfl (lv_at hl 0 rfl) ?_
  refine gX10_48 C hd (rfl : kd 142 = 10) (q := 148) rfl dX10_takeOver_22 (fun y4 => ?_)
  obtain ⟨S1, hc, h⟩ := bv_some h
  refine R_cSv C hd (ccX10_takeHalf l G y4 hc) kX10_334  hl.1 ⟨by decide, by decide⟩ rfl rfl (Nat.le_of_ble_eq_true rfl) dX10_takeOver_25 ⟨Nat.zero_le _, Nat.zero_le _⟩ (fun H locs hd => ?_)
  generalize S1 = S at h hd
  refine lv_aload_n hx hb dX10_takeOver_28 rfl (lv_at hl 0 rfl) ?_
  refine gX10_50 C hd (rfl : kd 142 = 10) (q := 149) rfl dX10_takeOver_29 (fun y5 => ?_)
  obtain ⟨S1, hc, h⟩ := bv_some h
  refine R_cSv C hd (ccX10_takeHalf l G y5 hc) kX10_334  hl.1 ⟨by decide, by decide⟩ rfl rfl (Nat.le_of_ble_eq_true rfl) dX10_takeOver_32 ⟨Nat.zero_le _, Nat.zero_le _⟩ (fun H locs hd => ?_)
  generalize S1 = S at h hd
  refine lv_aload_n hx hb dX10_takeOver_35 rfl (lv_at hl 0 rfl) ?_
  refine gX10_53 C hd (rfl : kd 142 = 10) (q := 150) rfl dX10_takeOver_36 (fun y6 => ?_)
  obtain ⟨S1, hc, h⟩ := bv_some h
  refine R_cSv C hd (ccX10_takeHalf l G y6 hc) kX10_334  hl.1 ⟨by decide, by decide⟩ rfl rfl (Nat.le_of_ble_eq_true rfl) dX10_takeOver_39 ⟨Nat.zero_le _, Nat.zero_le _⟩ (fun H locs hd => ?_)
  generalize S1 = S at h hd
  refine lv_aload_n hx hb dX10_takeOver_42 rfl (lv_at hl 0 rfl) ?_
  refine gX10_56 C hd (rfl : kd 142 = 10) (q := 151) rfl dX10_takeOver_43 (fun y7 => ?_)
  obtain ⟨S1, hc, h⟩ := bv_some h
  refine R_cSv C hd (ccX10_takeHalf l G y7 hc) kX10_334  hl.1 ⟨by decide, by decide⟩ rfl rfl (Nat.le_of_ble_eq_true rfl) dX10_takeOver_46 ⟨Nat.zero_le _, Nat.zero_le _⟩ (fun H locs hd => ?_)
  generalize S1 = S at h hd
  refine lv_aload_n hx hb dX10_takeOver_49 rfl (lv_at hl 0 rfl) ?_
  refine gX10_59 C hd (rfl : kd 142 = 10) (q := 152) rfl dX10_takeOver_50 (fun y8 => ?_)
  obtain ⟨S1, hc, h⟩ := bv_some h
  refine R_cSv C hd (ccX10_takeHalf l G y8 hc) kX10_334  hl.1 ⟨by decide, by decide⟩ rfl rfl (Nat.le_of_ble_eq_true rfl) dX10_takeOver_53 ⟨Nat.zero_le _, Nat.zero_le _⟩ (fun H locs hd => ?_)
  generalize S1 = S at h hd
  refine lv_aload_n hx hb dX10_takeOver_56 rfl (lv_at hl 0 rfl) ?_
  refine gX10_62 C hd (rfl : kd 142 = 10) (q := 153) rfl dX10_takeOver_57 (fun y9 => ?_)
  obtain ⟨S1, hc, h⟩ := bv_some h
  refine R_cSv C hd (ccX10_takeHalf l G y9 hc) kX10_334  hl.1 ⟨by decide, by decide⟩ rfl rfl (Nat.le_of_ble_eq_true rfl) dX10_takeOver_60 ⟨Nat.zero_le _, Nat.zero_le _⟩ (fun H locs hd => ?_)
  generalize S1 = S at h hd
  refine lv_aload_n hx hb dX10_takeOver_63 rfl (lv_at hl 0 rfl) ?_
  refine gX10_65 C hd (rfl : kd 142 = 10) (q := 154) rfl dX10_takeOver_64 (fun y10 => ?_)
  obtain ⟨S1, hc, h⟩ := bv_some h
  refine R_cSv C hd (ccX10_takeHalf l G y10 hc) kX10_334  hl.1 ⟨by decide, by decide⟩ rfl rfl (Nat.le_of_ble_eq_true rfl) dX10_takeOver_67 ⟨Nat.zero_le _, Nat.zero_le _⟩ (fun H locs hd => ?_)
  generalize S1 = S at h hd
  refine lv_aload_n hx hb dX10_takeOver_70 rfl (lv_at hl 0 rfl) ?_
  refine gX10_68 C hd (rfl : kd 142 = 10) (q := 155) rfl dX10_takeOver_71 (fun y11 => ?_)
  obtain ⟨S1, hc, h⟩ := bv_some h
  refine R_cSv C hd (ccX10_takeHalf l G y11 hc) kX10_334  hl.1 ⟨by decide, by decide⟩ rfl rfl (Nat.le_of_ble_eq_true rfl) dX10_takeOver_74 ⟨Nat.zero_le _, Nat.zero_le _⟩ (fun H locs hd => ?_)
  generalize S1 = S at h hd
  refine lv_aload_n hx hb dX10_takeOver_77 rfl (lv_at hl 0 rfl) ?_
  refine lv_iconst (v := 0) hx hb dX10_takeOver_78 (by decide) ?_
  refine pX10_338 C hd (rfl : kd 142 = 10) h dX10_takeOver_79 (fun S H locs hd h => ?_)
  refine lv_aload_n hx hb dX10_takeOver_82 rfl (lv_at hl 0 rfl) ?_
  refine lv_iconst (v := 0) hx hb dX10_takeOver_83 (by decide) ?_
  refine pX10_340 C hd (rfl : kd 142 = 10) h dX10_takeOver_84 (fun S H locs hd h => ?_)
  refine lv_iconst (v := 0) hx hb dX10_takeOver_87 (by decide) ?_
  refine lv_istore_n (lv' := [(1, .int 0), (0, .ref (gR G 142))]) hx hb dX10_takeOver_88 rfl hl (by decide) rfl (fun ls hl => ?_)
  exact sLX10_takeOver_89 C hr _ 0 _ _ _ _ _  hd (lv_sub hl [1, 0] rfl) h
set_option maxRecDepth 20000 in
theorem ccX10_takeOver (l : Launch) (G : Gt)  {S : St} {res : St}  (h : fX10_takeOver  S = some res) : Met l yX10_takeOver (wm yX10_takeOver cX10_takeOver 3 (none)) (rmL 4 0 0) (PcW G S [.ref (gR G 142)]) (QV G res) 0 0 (Ab G) := by
  refine Met.ofW (cc := cX10_takeOver) (maxL := 3) (ret := none) (by decide) rfl ?_
  intro p e s m args below meth c s₁ B hml hv
  obtain ⟨rfl, hK, hP⟩ := hv
  have C : Cx p s m _ meth c cX10_takeOver 3 RX10 G := ⟨⟨B.exec, B.bytes, hml, findClass_of_methodNamed B.named, fun w hw => atoms_spec (ws := wm yX10_takeOver cX10_takeOver 3 (none)) B.pre w (List.mem_cons_of_mem _ hw)⟩, B.notSynchronized, hK⟩
  have hl := lv_entry ([.ref (gR G 142)]) (n := 3) (Nat.le_of_ble_eq_true rfl)
  rw [lg_entry_eq]
  generalize (lg_sl ([.ref (gR G 142)]) ++ List.replicate (3 - (lg_sl ([.ref (gR G 142)])).length) Slot.unset).toArray = ls at hl ⊢
  exact sfX10_takeOver C B.returns  ⟨hP, va_S.rf⟩ hl h
def fX10_fault  (S : St) : Option (Int32 × St) :=
  pf S 142 3 0 fun S => ri (S 142 26) S
set_option maxHeartbeats 4000000 in
set_option maxRecDepth 20000 in
theorem sfX10_fault (C : Cx p s m args meth c cX10_fault 1 RX10 G) (hr : meth.sig.returnType = some .int)  {S : St} {res : (Int32 × St)} {H : Heap} {locs : List Loc} {ls : Array Slot}  (hd : Dy G S s H locs) (hl : lv_has ls 1 [(0, .ref (gR G 142))]) (h : fX10_fault  S = some res) : W p l e (rmL 3 0 0) s m args below meth c H locs 0 0 (MQ below (QI G res.1 res.2) args s 0 0 (Ab G)) (F0 m 0 ls []) := by
  unfold fX10_fault at h
  have hx := C.1.1
  have hb := C.1.2.1
  refine lv_aload_n hx hb dX10_fault_0 rfl (lv_at hl 0 rfl) ?_
  refine lv_iconst (v := 0) hx hb dX10_fault_1 (by decide) ?_
  refine pX10_167 C hd (rfl : kd 142 = 10) h dX10_fault_2 (fun S H locs hd h => ?_)
  refine lv_aload_n hx hb dX10_fault_5 rfl (lv_at hl 0 rfl) ?_
  refine gX10_77 C hd (rfl : kd 142 = 10) dX10_fault_6 ?_
  exact R_iret C hr hd h dX10_fault_9
set_option maxRecDepth 20000 in
theorem ccX10_fault (l : Launch) (G : Gt)  {S : St} {res : (Int32 × St)}  (h : fX10_fault  S = some res) : Met l yX10_fault (wm yX10_fault cX10_fault 1 (some .int)) (rmL 3 0 0) (PcW G S [.ref (gR G 142)]) (QI G res.1 res.2) 0 0 (Ab G) := by
  refine Met.ofW (cc := cX10_fault) (maxL := 1) (ret := (some .int)) (by decide) rfl ?_
  intro p e s m args below meth c s₁ B hml hv
  obtain ⟨rfl, hK, hP⟩ := hv
  have C : Cx p s m _ meth c cX10_fault 1 RX10 G := ⟨⟨B.exec, B.bytes, hml, findClass_of_methodNamed B.named, fun w hw => atoms_spec (ws := wm yX10_fault cX10_fault 1 (some .int)) B.pre w (List.mem_cons_of_mem _ hw)⟩, B.notSynchronized, hK⟩
  have hl := lv_entry ([.ref (gR G 142)]) (n := 1) (Nat.le_of_ble_eq_true rfl)
  rw [lg_entry_eq]
  generalize (lg_sl ([.ref (gR G 142)]) ++ List.replicate (1 - (lg_sl ([.ref (gR G 142)])).length) Slot.unset).toArray = ls at hl ⊢
  exact sfX10_fault C B.returns  ⟨hP, va_S.rf⟩ hl h
end T31
