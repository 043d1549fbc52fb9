section T21
variable {p : Program} {l : Launch} {e : Env} {s : State} {m : MethodId} {args : Array Value} {below : List Frame} {meth : Method} {c : Code} {G : Gt}
def BX3_answer_290 (r7 : Nat → Nat → Int32 → Int32 → St → Option (Int32 × St)) (l0 : Nat) (l1 : Nat) (l2 : Int32) (l3 : Int32) (S : St) : Option (Int32 × St) :=
  vl (l3 + 1) fun x1 => (r7 l0 l1 l2 x1 S)
set_option maxHeartbeats 4000000 in
set_option maxRecDepth 20000 in
theorem sBX3_answer_290 (C : Cx p s m args meth c cX3_answer 7 RX3 G) (hr : meth.sig.returnType = some .int) {r7 : Nat → Nat → Int32 → Int32 → St → Option (Int32 × St)} (hr7 : ∀ (l0 : Nat) (l1 : Nat) (l2 : Int32) (l3 : Int32) (S : St) (res : (Int32 × St)) (H : Heap) (locs : List Loc) (ls : Array Slot), kd l0 = 3 → kd l1 = 20 → Dy G S s H locs → lv_has ls 7 [(0, .ref (gR G l0)), (1, .ref (gR G l1)), (2, .int l2), (3, .int l3)] → r7 l0 l1 l2 l3 S = some res → W p l e (rmL 3 0 0) s m args below meth c H locs 0 0 (MQ below (QI G res.1 res.2) args s 0 0 (Ab G)) (F0 m 7 ls [])) {l0 : Nat} {l1 : Nat} {l2 : Int32} {l3 : Int32} {S : St} {res : (Int32 × St)} {H : Heap} {locs : List Loc} {ls : Array Slot} (kl0 : kd l0 = 3) (kl1 : kd l1 = 20) (hd : Dy G S s H locs) (hl : lv_has ls 7 [(0, .ref (gR G l0)), (1, .ref (gR G l1)), (2, .int l2), (3, .int l3)]) (h : BX3_answer_290 r7 l0 l1 l2 l3 S = some res) : W p l e (rmL 3 0 0) s m args below meth c H locs 0 0 (MQ below (QI G res.1 res.2) args s 0 0 (Ab G)) (F0 m 290 ls []) := by
  unfold BX3_answer_290 at h
  have hx := C.1.1
  have hb := C.1.2.1
  refine R_vi h (fun x1 ex1 h => ?_)
  refine lv_iinc (v := x1) (lv' := [(3, .int x1), (0, .ref (gR G l0)), (1, .ref (gR G l1)), (2, .int l2)]) hx hb dX3_answer_290 hl (k := 3) rfl (by rw [ex1]; rfl) (by decide) rfl (fun ls hl => ?_)
  refine lv_goto (tgt := 7) hx hb dX3_answer_293 (by decide) ?_
  exact hr7 l0 l1 l2 x1 _ _ _ _ _ kl0 kl1 hd (lv_sub hl [1, 2, 3, 0] rfl) h
def BX3_answer_78 (r7 : Nat → Nat → Int32 → Int32 → St → Option (Int32 × St)) (l0 : Nat) (l1 : Nat) (l2 : Int32) (l3 : Int32) (s0 : Nat) (s1 : Int32) (s2 : Int32) (S : St) : Option (Int32 × St) :=
  wr S s0 s1 s2 fun S => vl (l2 + 1) fun x1 => (BX3_answer_290 r7 l0 l1 x1 l3 S)
set_option maxHeartbeats 4000000 in
set_option maxRecDepth 20000 in
theorem sBX3_answer_78 (C : Cx p s m args meth c cX3_answer 7 RX3 G) (hr : meth.sig.returnType = some .int) {r7 : Nat → Nat → Int32 → Int32 → St → Option (Int32 × St)} (hr7 : ∀ (l0 : Nat) (l1 : Nat) (l2 : Int32) (l3 : Int32) (S : St) (res : (Int32 × St)) (H : Heap) (locs : List Loc) (ls : Array Slot), kd l0 = 3 → kd l1 = 20 → Dy G S s H locs → lv_has ls 7 [(0, .ref (gR G l0)), (1, .ref (gR G l1)), (2, .int l2), (3, .int l3)] → r7 l0 l1 l2 l3 S = some res → W p l e (rmL 3 0 0) s m args below meth c H locs 0 0 (MQ below (QI G res.1 res.2) args s 0 0 (Ab G)) (F0 m 7 ls [])) {l0 : Nat} {l1 : Nat} {l2 : Int32} {l3 : Int32} {s0 : Nat} {s1 : Int32} {s2 : Int32} {S : St} {res : (Int32 × St)} {H : Heap} {locs : List Loc} {ls : Array Slot} (kl0 : kd l0 = 3) (kl1 : kd l1 = 20) (ks0 : kd s0 = 20) (hd : Dy G S s H locs) (hl : lv_has ls 7 [(0, .ref (gR G l0)), (1, .ref (gR G l1)), (2, .int l2), (3, .int l3)]) (h : BX3_answer_78 r7 l0 l1 l2 l3 s0 s1 s2 S = some res) : W p l e (rmL 3 0 0) s m args below meth c H locs 0 0 (MQ below (QI G res.1 res.2) args s 0 0 (Ab G)) (F0 m 78 ls [.int s2, .int s1, .ref (gR G s0)]) := by
  unfold BX3_answer_78 at h
  have hx := C.1.1
  have hb := C.1.2.1
  refine R_iast C hd ks0 h dX3_answer_78 (fun S H locs hd h => ?_)
  refine R_vi h (fun x1 ex1 h => ?_)
  refine lv_iinc (v := x1) (lv' := [(2, .int x1), (0, .ref (gR G l0)), (1, .ref (gR G l1)), (3, .int l3)]) hx hb dX3_answer_79 hl (k := 2) rfl (by rw [ex1]; rfl) (by decide) rfl (fun ls hl => ?_)
  refine lv_goto (tgt := 290) hx hb dX3_answer_82 (by decide) ?_
  exact sBX3_answer_290 C hr hr7 kl0 kl1 hd (lv_sub hl [1, 2, 0, 3] rfl) h
def BX3_answer_35 (r7 : Nat → Nat → Int32 → Int32 → St → Option (Int32 × St)) (l0 : Nat) (l1 : Nat) (l2 : Int32) (l3 : Int32) (l4 : Int32) (S : St) : Option (Int32 × St) :=
  (if (nI (ln (sr l0 4))) ≤ l2 then ri 0 S else (if ((-20) - l4) < (nI (ln l1)) then (if l4 < 0 then rd S l1 ((-20) - l4) fun x6 => (BX3_answer_78 r7 l0 l1 l2 l3 (sr l0 4) l2 x6 S) else (BX3_answer_78 r7 l0 l1 l2 l3 (sr l0 4) l2 l4 S)) else ri 0 S))
set_option maxHeartbeats 4000000 in
set_option maxRecDepth 20000 in
theorem sBX3_answer_35 (C : Cx p s m args meth c cX3_answer 7 RX3 G) (hr : meth.sig.returnType = some .int) {r7 : Nat → Nat → Int32 → Int32 → St → Option (Int32 × St)} (hr7 : ∀ (l0 : Nat) (l1 : Nat) (l2 : Int32) (l3 : Int32) (S : St) (res : (Int32 × St)) (H : Heap) (locs : List Loc) (ls : Array Slot), kd l0 = 3 → kd l1 = 20 → Dy G S s H locs → lv_has ls 7 [(0, .ref (gR G l0)), (1, .ref (gR G l1)), (2, .int l2), (3, .int l3)] → r7 l0 l1 l2 l3 S = some res → W p l e (rmL 3 0 0) s m args below meth c H locs 0 0 (MQ below (QI G res.1 res.2) args s 0 0 (Ab G)) (F0 m 7 ls [])) {l0 : Nat} {l1 : Nat} {l2 : Int32} {l3 : Int32} {l4 : Int32} {S : St} {res : (Int32 × St)} {H : Heap} {locs : List Loc} {ls : Array Slot} (kl0 : kd l0 = 3) (kl1 : kd l1 = 20) (hd : Dy G S s H locs) (hl : lv_has ls 7 [(0, .ref (gR G l0)), (1, .ref (gR G l1)), (2, .int l2), (3, .int l3), (4, .int l4)]) (h : BX3_answer_35 r7 l0 l1 l2 l3 l4 S = some res) : W p l e (rmL 3 0 0) s m args below meth c H locs 0 0 (MQ below (QI G res.1 res.2) args s 0 0 (Ab G)) (F0 m 35 ls []) := by
  unfold BX3_answer_35 at h
  have hx := C.1.1
  have hb := C.1.2.1
  refine lv_iload_n hx hb dX3_answer_35 rfl (lv_at hl 2 rfl) ?_
  refine lv_aload_n hx hb dX3_answer_36 rfl (lv_at hl 0 rfl) ?_
  refine gX3_7 C hd kl0 (q := sr l0 4) rfl dX3_answer_37 (fun y1 => ?_)
  refine R_alen C hd y1 (v := nI (ln (sr l0 4))) rfl dX3_answer_40 ?_
  refine lv_icmp_ge (tgt := 54) hx hb dX3_answer_41 (by decide) (fun c2 => ?_) (fun c2 => ?_)
  · rw [if_pos c2] at h
    refine lv_iconst (v := 0) hx hb dX3_answer_54 (by decide) ?_
    exact R_iret C hr hd h dX3_answer_55
  · rw [if_neg c2] at h
    refine lv_bipush (v := -20) hx hb dX3_answer_44 (by decide) ?_
    refine lv_iload hx hb dX3_answer_46 (lv_at hl 4 rfl) ?_
    refine lv_isub hx hb dX3_answer_48 ?_
    refine lv_aload_n hx hb dX3_answer_49 rfl (lv_at hl 1 rfl) ?_
    refine R_alen C hd kl1 (v := nI (ln l1)) rfl dX3_answer_50 ?_
    refine lv_icmp_lt (tgt := 56) hx hb dX3_answer_51 (by decide) (fun c3 => ?_) (fun c3 => ?_)
    · rw [if_pos c3] at h
      refine lv_aload_n hx hb dX3_answer_56 rfl (lv_at hl 0 rfl) ?_
      refine gX3_7 C hd kl0 (q := sr l0 4) rfl dX3_answer_57 (fun y4 => ?_)
      refine lv_iload_n hx hb dX3_answer_60 rfl (lv_at hl 2 rfl) ?_
      refine lv_iload hx hb dX3_answer_61 (lv_at hl 4 rfl) ?_
      refine lv_if_lt (tgt := 71) hx hb dX3_answer_63 (by decide) (fun c5 => ?_) (fun c5 => ?_)
      · rw [if_pos c5] at h
        refine lv_aload_n hx hb dX3_answer_71 rfl (lv_at hl 1 rfl) ?_
        refine lv_bipush (v := -20) hx hb dX3_answer_72 (by decide) ?_
        refine lv_iload hx hb dX3_answer_74 (lv_at hl 4 rfl) ?_
        refine lv_isub hx hb dX3_answer_76 ?_
        refine R_iald C hd kl1 h dX3_answer_77 (fun x6 h => ?_)
        exact sBX3_answer_78 C hr hr7 kl0 kl1 y4 hd (lv_sub hl [0, 1, 2, 3] rfl) h
      · rw [if_neg c5] at h
        refine lv_iload hx hb dX3_answer_66 (lv_at hl 4 rfl) ?_
        refine lv_goto (tgt := 78) hx hb dX3_answer_68 (by decide) ?_
        exact sBX3_answer_78 C hr hr7 kl0 kl1 y4 hd (lv_sub hl [0, 1, 2, 3] rfl) h
    · rw [if_neg c3] at h
      refine lv_iconst (v := 0) hx hb dX3_answer_54 (by decide) ?_
      exact R_iret C hr hd h dX3_answer_55
def BX3_answer_280 (r7 : Nat → Nat → Int32 → Int32 → St → Option (Int32 × St)) (l0 : Nat) (l1 : Nat) (l2 : Int32) (l3 : Int32) (l5 : Int32) (S : St) : Option (Int32 × St) :=
  wr S (sr l0 4) (l2 - 1) l5 fun S => (BX3_answer_290 r7 l0 l1 l2 l3 S)
set_option maxHeartbeats 4000000 in
set_option maxRecDepth 20000 in
theorem sBX3_answer_280 (C : Cx p s m args meth c cX3_answer 7 RX3 G) (hr : meth.sig.returnType = some .int) {r7 : Nat → Nat → Int32 → Int32 → St → Option (Int32 × St)} (hr7 : ∀ (l0 : Nat) (l1 : Nat) (l2 : Int32) (l3 : Int32) (S : St) (res : (Int32 × St)) (H : Heap) (locs : List Loc) (ls : Array Slot), kd l0 = 3 → kd l1 = 20 → Dy G S s H locs → lv_has ls 7 [(0, .ref (gR G l0)), (1, .ref (gR G l1)), (2, .int l2), (3, .int l3)] → r7 l0 l1 l2 l3 S = some res → W p l e (rmL 3 0 0) s m args below meth c H locs 0 0 (MQ below (QI G res.1 res.2) args s 0 0 (Ab G)) (F0 m 7 ls [])) {l0 : Nat} {l1 : Nat} {l2 : Int32} {l3 : Int32} {l5 : Int32} {S : St} {res : (Int32 × St)} {H : Heap} {locs : List Loc} {ls : Array Slot} (kl0 : kd l0 = 3) (kl1 : kd l1 = 20) (hd : Dy G S s H locs) (hl : lv_has ls 7 [(0, .ref (gR G l0)), (1, .ref (gR G l1)), (2, .int l2), (3, .int l3), (5, .int l5)]) (h : BX3_answer_280 r7 l0 l1 l2 l3 l5 S = some res) : W p l e (rmL 3 0 0) s m args below meth c H locs 0 0 (MQ below (QI G res.1 res.2) args s 0 0 (Ab G)) (F0 m 280 ls []) := by
  unfold BX3_answer_280 at h
  have hx := C.1.1
  have hb := C.1.2.1
  refine lv_aload_n hx hb dX3_answer_280 rfl (lv_at hl 0 rfl) ?_
  refine gX3_7 C hd kl0 (q := sr l0 4) rfl dX3_answer_281 (fun y1 => ?_)
  refine lv_iload_n hx hb dX3_answer_284 rfl (lv_at hl 2 rfl) ?_
  refine lv_iconst (v := 1) hx hb dX3_answer_285 (by decide) ?_
  refine lv_isub hx hb dX3_answer_286 ?_
  refine lv_iload hx hb dX3_answer_287 (lv_at hl 4 rfl) ?_
  refine R_iast C hd y1 h dX3_answer_289 (fun S H locs hd h => ?_)
  exact sBX3_answer_290 C hr hr7 kl0 kl1 hd (lv_sub hl [0, 1, 2, 3] rfl) h
def BX3_answer_229 (r7 : Nat → Nat → Int32 → Int32 → St → Option (Int32 × St)) (l0 : Nat) (l1 : Nat) (l2 : Int32) (l3 : Int32) (s0 : Int32) (S : St) : Option (Int32 × St) :=
  (BX3_answer_280 r7 l0 l1 l2 l3 s0 S)
set_option maxHeartbeats 4000000 in
set_option maxRecDepth 20000 in
theorem sBX3_answer_229 (C : Cx p s m args meth c cX3_answer 7 RX3 G) (hr : meth.sig.returnType = some .int) {r7 : Nat → Nat → Int32 → Int32 → St → Option (Int32 × St)} (hr7 : ∀ (l0 : Nat) (l1 : Nat) (l2 : Int32) (l3 : Int32) (S : St) (res : (Int32 × St)) (H : Heap) (locs : List Loc) (ls : Array Slot), kd l0 = 3 → kd l1 = 20 → Dy G S s H locs → lv_has ls 7 [(0, .ref (gR G l0)), (1, .ref (gR G l1)), (2, .int l2), (3, .int l3)] → r7 l0 l1 l2 l3 S = some res → W p l e (rmL 3 0 0) s m args below meth c H locs 0 0 (MQ below (QI G res.1 res.2) args s 0 0 (Ab G)) (F0 m 7 ls [])) {l0 : Nat} {l1 : Nat} {l2 : Int32} {l3 : Int32} {s0 : Int32} {S : St} {res : (Int32 × St)} {H : Heap} {locs : List Loc} {ls : Array Slot} (kl0 : kd l0 = 3) (kl1 : kd l1 = 20) (hd : Dy G S s H locs) (hl : lv_has ls 7 [(0, .ref (gR G l0)), (1, .ref (gR G l1)), (2, .int l2), (3, .int l3)]) (h : BX3_answer_229 r7 l0 l1 l2 l3 s0 S = some res) : W p l e (rmL 3 0 0) s m args below meth c H locs 0 0 (MQ below (QI G res.1 res.2) args s 0 0 (Ab G)) (F0 m 229 ls [.int s0]) := by
  unfold BX3_answer_229 at h
  have hx := C.1.1
  have hb := C.1.2.1
  refine lv_istore (lv' := [(5, .int s0), (0, .ref (gR G l0)), (1, .ref (gR G l1)), (2, .int l2), (3, .int l3)]) hx hb dX3_answer_229 hl (by decide) rfl (fun ls hl => ?_)
  refine lv_goto (tgt := 280) hx hb dX3_answer_231 (by decide) ?_
  exact sBX3_answer_280 C hr hr7 kl0 kl1 hd (lv_sub hl [1, 2, 3, 4, 0] rfl) h
def BX3_answer_212 (r7 : Nat → Nat → Int32 → Int32 → St → Option (Int32 × St)) (l0 : Nat) (l1 : Nat) (l2 : Int32) (l3 : Int32) (s0 : Int32) (S : St) : Option (Int32 × St) :=
  (BX3_answer_280 r7 l0 l1 l2 l3 s0 S)
set_option maxHeartbeats 4000000 in
set_option maxRecDepth 20000 in
theorem sBX3_answer_212 (C : Cx p s m args meth c cX3_answer 7 RX3 G) (hr : meth.sig.returnType = some .int) {r7 : Nat → Nat → Int32 → Int32 → St → Option (Int32 × St)} (hr7 : ∀ (l0 : Nat) (l1 : Nat) (l2 : Int32) (l3 : Int32) (S : St) (res : (Int32 × St)) (H : Heap) (locs : List Loc) (ls : Array Slot), kd l0 = 3 → kd l1 = 20 → Dy G S s H locs → lv_has ls 7 [(0, .ref (gR G l0)), (1, .ref (gR G l1)), (2, .int l2), (3, .int l3)] → r7 l0 l1 l2 l3 S = some res → W p l e (rmL 3 0 0) s m args below meth c H locs 0 0 (MQ below (QI G res.1 res.2) args s 0 0 (Ab G)) (F0 m 7 ls [])) {l0 : Nat} {l1 : Nat} {l2 : Int32} {l3 : Int32} {s0 : Int32} {S : St} {res : (Int32 × St)} {H : Heap} {locs : List Loc} {ls : Array Slot} (kl0 : kd l0 = 3) (kl1 : kd l1 = 20) (hd : Dy G S s H locs) (hl : lv_has ls 7 [(0, .ref (gR G l0)), (1, .ref (gR G l1)), (2, .int l2), (3, .int l3)]) (h : BX3_answer_212 r7 l0 l1 l2 l3 s0 S = some res) : W p l e (rmL 3 0 0) s m args below meth c H locs 0 0 (MQ below (QI G res.1 res.2) args s 0 0 (Ab G)) (F0 m 212 ls [.int s0]) := by
  unfold BX3_answer_212 at h
  have hx := C.1.1
  have hb := C.1.2.1
  refine lv_istore (lv' := [(5, .int s0), (0, .ref (gR G l0)), (1, .ref (gR G l1)), (2, .int l2), (3, .int l3)]) hx hb dX3_answer_212 hl (by decide) rfl (fun ls hl => ?_)
  refine lv_goto (tgt := 280) hx hb dX3_answer_214 (by decide) ?_
  exact sBX3_answer_280 C hr hr7 kl0 kl1 hd (lv_sub hl [1, 2, 3, 4, 0] rfl) h
def BX3_answer_278 (r7 : Nat → Nat → Int32 → Int32 → St → Option (Int32 × St)) (l0 : Nat) (l1 : Nat) (l2 : Int32) (l3 : Int32) (s0 : Int32) (S : St) : Option (Int32 × St) :=
  (BX3_answer_280 r7 l0 l1 l2 l3 s0 S)
set_option maxHeartbeats 4000000 in
set_option maxRecDepth 20000 in
theorem sBX3_answer_278 (C : Cx p s m args meth c cX3_answer 7 RX3 G) (hr : meth.sig.returnType = some .int) {r7 : Nat → Nat → Int32 → Int32 → St → Option (Int32 × St)} (hr7 : ∀ (l0 : Nat) (l1 : Nat) (l2 : Int32) (l3 : Int32) (S : St) (res : (Int32 × St)) (H : Heap) (locs : List Loc) (ls : Array Slot), kd l0 = 3 → kd l1 = 20 → Dy G S s H locs → lv_has ls 7 [(0, .ref (gR G l0)), (1, .ref (gR G l1)), (2, .int l2), (3, .int l3)] → r7 l0 l1 l2 l3 S = some res → W p l e (rmL 3 0 0) s m args below meth c H locs 0 0 (MQ below (QI G res.1 res.2) args s 0 0 (Ab G)) (F0 m 7 ls [])) {l0 : Nat} {l1 : Nat} {l2 : Int32} {l3 : Int32} {s0 : Int32} {S : St} {res : (Int32 × St)} {H : Heap} {locs : List Loc} {ls : Array Slot} (kl0 : kd l0 = 3) (kl1 : kd l1 = 20) (hd : Dy G S s H locs) (hl : lv_has ls 7 [(0, .ref (gR G l0)), (1, .ref (gR G l1)), (2, .int l2), (3, .int l3)]) (h : BX3_answer_278 r7 l0 l1 l2 l3 s0 S = some res) : W p l e (rmL 3 0 0) s m args below meth c H locs 0 0 (MQ below (QI G res.1 res.2) args s 0 0 (Ab G)) (F0 m 278 ls [.int s0]) := by
  unfold BX3_answer_278 at h
  have hx := C.1.1
  have hb := C.1.2.1
  refine lv_istore (lv' := [(5, .int s0), (0, .ref (gR G l0)), (1, .ref (gR G l1)), (2, .int l2), (3, .int l3)]) hx hb dX3_answer_278 hl (by decide) rfl (fun ls hl => ?_)
  exact sBX3_answer_280 C hr hr7 kl0 kl1 hd (lv_sub hl [1, 2, 3, 4, 0] rfl) h
def BX3_answer_264 (r7 : Nat → Nat → Int32 → Int32 → St → Option (Int32 × St)) (l0 : Nat) (l1 : Nat) (l2 : Int32) (l3 : Int32) (l5 : Int32) (l6 : Int32) (S : St) : Option (Int32 × St) :=
  (if l6 = 0 then (BX3_answer_278 r7 l0 l1 l2 l3 0 S) else dv l5 l6 fun x2 => (BX3_answer_278 r7 l0 l1 l2 l3 x2 S))
set_option maxHeartbeats 4000000 in
set_option maxRecDepth 20000 in
theorem sBX3_answer_264 (C : Cx p s m args meth c cX3_answer 7 RX3 G) (hr : meth.sig.returnType = some .int) {r7 : Nat → Nat → Int32 → Int32 → St → Option (Int32 × St)} (hr7 : ∀ (l0 : Nat) (l1 : Nat) (l2 : Int32) (l3 : Int32) (S : St) (res : (Int32 × St)) (H : Heap) (locs : List Loc) (ls : Array Slot), kd l0 = 3 → kd l1 = 20 → Dy G S s H locs → lv_has ls 7 [(0, .ref (gR G l0)), (1, .ref (gR G l1)), (2, .int l2), (3, .int l3)] → r7 l0 l1 l2 l3 S = some res → W p l e (rmL 3 0 0) s m args below meth c H locs 0 0 (MQ below (QI G res.1 res.2) args s 0 0 (Ab G)) (F0 m 7 ls [])) {l0 : Nat} {l1 : Nat} {l2 : Int32} {l3 : Int32} {l5 : Int32} {l6 : Int32} {S : St} {res : (Int32 × St)} {H : Heap} {locs : List Loc} {ls : Array Slot} (kl0 : kd l0 = 3) (kl1 : kd l1 = 20) (hd : Dy G S s H locs) (hl : lv_has ls 7 [(0, .ref (gR G l0)), (1, .ref (gR G l1)), (2, .int l2), (3, .int l3), (5, .int l5), (6, .int l6)]) (h : BX3_answer_264 r7 l0 l1 l2 l3 l5 l6 S = some res) : W p l e (rmL 3 0 0) s m args below meth c H locs 0 0 (MQ below (QI G res.1 res.2) args s 0 0 (Ab G)) (F0 m 264 ls []) := by
  unfold BX3_answer_264 at h
  have hx := C.1.1
  have hb := C.1.2.1
  refine lv_iload hx hb dX3_answer_264 (lv_at hl 5 rfl) ?_
  refine lv_if_ne (tgt := 273) hx hb dX3_answer_266 (by decide) (fun c1 => ?_) (fun c1 => ?_)
  · rw [if_neg c1] at h
    refine lv_iload hx hb dX3_answer_273 (lv_at hl 4 rfl) ?_
    refine lv_iload hx hb dX3_answer_275 (lv_at hl 5 rfl) ?_
    refine R_div C h dX3_answer_277 (fun x2 h => ?_)
    exact sBX3_answer_278 C hr hr7 kl0 kl1 hd (lv_sub hl [0, 1, 2, 3] rfl) h
  · rw [if_pos c1] at h
    refine lv_iconst (v := 0) hx hb dX3_answer_269 (by decide) ?_
    refine lv_goto (tgt := 278) hx hb dX3_answer_270 (by decide) ?_
    exact sBX3_answer_278 C hr hr7 kl0 kl1 hd (lv_sub hl [0, 1, 2, 3] rfl) h
def BX3_answer_195 (r7 : Nat → Nat → Int32 → Int32 → St → Option (Int32 × St)) (l0 : Nat) (l1 : Nat) (l2 : Int32) (l3 : Int32) (s0 : Int32) (S : St) : Option (Int32 × St) :=
  (BX3_answer_280 r7 l0 l1 l2 l3 s0 S)
set_option maxHeartbeats 4000000 in
set_option maxRecDepth 20000 in
theorem sBX3_answer_195 (C : Cx p s m args meth c cX3_answer 7 RX3 G) (hr : meth.sig.returnType = some .int) {r7 : Nat → Nat → Int32 → Int32 → St → Option (Int32 × St)} (hr7 : ∀ (l0 : Nat) (l1 : Nat) (l2 : Int32) (l3 : Int32) (S : St) (res : (Int32 × St)) (H : Heap) (locs : List Loc) (ls : Array Slot), kd l0 = 3 → kd l1 = 20 → Dy G S s H locs → lv_has ls 7 [(0, .ref (gR G l0)), (1, .ref (gR G l1)), (2, .int l2), (3, .int l3)] → r7 l0 l1 l2 l3 S = some res → W p l e (rmL 3 0 0) s m args below meth c H locs 0 0 (MQ below (QI G res.1 res.2) args s 0 0 (Ab G)) (F0 m 7 ls [])) {l0 : Nat} {l1 : Nat} {l2 : Int32} {l3 : Int32} {s0 : Int32} {S : St} {res : (Int32 × St)} {H : Heap} {locs : List Loc} {ls : Array Slot} (kl0 : kd l0 = 3) (kl1 : kd l1 = 20) (hd : Dy G S s H locs) (hl : lv_has ls 7 [(0, .ref (gR G l0)), (1, .ref (gR G l1)), (2, .int l2), (3, .int l3)]) (h : BX3_answer_195 r7 l0 l1 l2 l3 s0 S = some res) : W p l e (rmL 3 0 0) s m args below meth c H locs 0 0 (MQ below (QI G res.1 res.2) args s 0 0 (Ab G)) (F0 m 195 ls [.int s0]) := by
  unfold BX3_answer_195 at h
  have hx := C.1.1
  have hb := C.1.2.1
  refine lv_istore (lv' := [(5, .int s0), (0, .ref (gR G l0)), (1, .ref (gR G l1)), (2, .int l2), (3, .int l3)]) hx hb dX3_answer_195 hl (by decide) rfl (fun ls hl => ?_)
  refine lv_goto (tgt := 280) hx hb dX3_answer_197 (by decide) ?_
  exact sBX3_answer_280 C hr hr7 kl0 kl1 hd (lv_sub hl [1, 2, 3, 4, 0] rfl) h
def BX3_answer_194 (r7 : Nat → Nat → Int32 → Int32 → St → Option (Int32 × St)) (l0 : Nat) (l1 : Nat) (l2 : Int32) (l3 : Int32) (S : St) : Option (Int32 × St) :=
  (BX3_answer_195 r7 l0 l1 l2 l3 0 S)
set_option maxHeartbeats 4000000 in
set_option maxRecDepth 20000 in
theorem sBX3_answer_194 (C : Cx p s m args meth c cX3_answer 7 RX3 G) (hr : meth.sig.returnType = some .int) {r7 : Nat → Nat → Int32 → Int32 → St → Option (Int32 × St)} (hr7 : ∀ (l0 : Nat) (l1 : Nat) (l2 : Int32) (l3 : Int32) (S : St) (res : (Int32 × St)) (H : Heap) (locs : List Loc) (ls : Array Slot), kd l0 = 3 → kd l1 = 20 → Dy G S s H locs → lv_has ls 7 [(0, .ref (gR G l0)), (1, .ref (gR G l1)), (2, .int l2), (3, .int l3)] → r7 l0 l1 l2 l3 S = some res → W p l e (rmL 3 0 0) s m args below meth c H locs 0 0 (MQ below (QI G res.1 res.2) args s 0 0 (Ab G)) (F0 m 7 ls [])) {l0 : Nat} {l1 : Nat} {l2 : Int32} {l3 : Int32} {S : St} {res : (Int32 × St)} {H : Heap} {locs : List Loc} {ls : Array Slot} (kl0 : kd l0 = 3) (kl1 : kd l1 = 20) (hd : Dy G S s H locs) (hl : lv_has ls 7 [(0, .ref (gR G l0)), (1, .ref (gR G l1)), (2, .int l2), (3, .int l3)]) (h : BX3_answer_194 r7 l0 l1 l2 l3 S = some res) : W p l e (rmL 3 0 0) s m args below meth c H locs 0 0 (MQ below (QI G res.1 res.2) args s 0 0 (Ab G)) (F0 m 194 ls []) := by
  unfold BX3_answer_194 at h
  have hx := C.1.1
  have hb := C.1.2.1
  refine lv_iconst (v := 0) hx hb dX3_answer_194 (by decide) ?_
  exact sBX3_answer_195 C hr hr7 kl0 kl1 hd (lv_sub hl [0, 1, 2, 3] rfl) h
def BX3_answer_175 (r7 : Nat → Nat → Int32 → Int32 → St → Option (Int32 × St)) (l0 : Nat) (l1 : Nat) (l2 : Int32) (l3 : Int32) (s0 : Int32) (S : St) : Option (Int32 × St) :=
  (BX3_answer_280 r7 l0 l1 l2 l3 s0 S)
set_option maxHeartbeats 4000000 in
set_option maxRecDepth 20000 in
theorem sBX3_answer_175 (C : Cx p s m args meth c cX3_answer 7 RX3 G) (hr : meth.sig.returnType = some .int) {r7 : Nat → Nat → Int32 → Int32 → St → Option (Int32 × St)} (hr7 : ∀ (l0 : Nat) (l1 : Nat) (l2 : Int32) (l3 : Int32) (S : St) (res : (Int32 × St)) (H : Heap) (locs : List Loc) (ls : Array Slot), kd l0 = 3 → kd l1 = 20 → Dy G S s H locs → lv_has ls 7 [(0, .ref (gR G l0)), (1, .ref (gR G l1)), (2, .int l2), (3, .int l3)] → r7 l0 l1 l2 l3 S = some res → W p l e (rmL 3 0 0) s m args below meth c H locs 0 0 (MQ below (QI G res.1 res.2) args s 0 0 (Ab G)) (F0 m 7 ls [])) {l0 : Nat} {l1 : Nat} {l2 : Int32} {l3 : Int32} {s0 : Int32} {S : St} {res : (Int32 × St)} {H : Heap} {locs : List Loc} {ls : Array Slot} (kl0 : kd l0 = 3) (kl1 : kd l1 = 20) (hd : Dy G S s H locs) (hl : lv_has ls 7 [(0, .ref (gR G l0)), (1, .ref (gR G l1)), (2, .int l2), (3, .int l3)]) (h : BX3_answer_175 r7 l0 l1 l2 l3 s0 S = some res) : W p l e (rmL 3 0 0) s m args below meth c H locs 0 0 (MQ below (QI G res.1 res.2) args s 0 0 (Ab G)) (F0 m 175 ls [.int s0]) := by
  unfold BX3_answer_175 at h
  have hx := C.1.1
  have hb := C.1.2.1
  refine lv_istore (lv' := [(5, .int s0), (0, .ref (gR G l0)), (1, .ref (gR G l1)), (2, .int l2), (3, .int l3)]) hx hb dX3_answer_175 hl (by decide) rfl (fun ls hl => ?_)
  refine lv_goto (tgt := 280) hx hb dX3_answer_177 (by decide) ?_
  exact sBX3_answer_280 C hr hr7 kl0 kl1 hd (lv_sub hl [1, 2, 3, 4, 0] rfl) h
def BX3_answer_170 (r7 : Nat → Nat → Int32 → Int32 → St → Option (Int32 × St)) (l0 : Nat) (l1 : Nat) (l2 : Int32) (l3 : Int32) (S : St) : Option (Int32 × St) :=
  (BX3_answer_175 r7 l0 l1 l2 l3 1 S)
set_option maxHeartbeats 4000000 in
set_option maxRecDepth 20000 in
theorem sBX3_answer_170 (C : Cx p s m args meth c cX3_answer 7 RX3 G) (hr : meth.sig.returnType = some .int) {r7 : Nat → Nat → Int32 → Int32 → St → Option (Int32 × St)} (hr7 : ∀ (l0 : Nat) (l1 : Nat) (l2 : Int32) (l3 : Int32) (S : St) (res : (Int32 × St)) (H : Heap) (locs : List Loc) (ls : Array Slot), kd l0 = 3 → kd l1 = 20 → Dy G S s H locs → lv_has ls 7 [(0, .ref (gR G l0)), (1, .ref (gR G l1)), (2, .int l2), (3, .int l3)] → r7 l0 l1 l2 l3 S = some res → W p l e (rmL 3 0 0) s m args below meth c H locs 0 0 (MQ below (QI G res.1 res.2) args s 0 0 (Ab G)) (F0 m 7 ls [])) {l0 : Nat} {l1 : Nat} {l2 : Int32} {l3 : Int32} {S : St} {res : (Int32 × St)} {H : Heap} {locs : List Loc} {ls : Array Slot} (kl0 : kd l0 = 3) (kl1 : kd l1 = 20) (hd : Dy G S s H locs) (hl : lv_has ls 7 [(0, .ref (gR G l0)), (1, .ref (gR G l1)), (2, .int l2), (3, .int l3)]) (h : BX3_answer_170 r7 l0 l1 l2 l3 S = some res) : W p l e (rmL 3 0 0) s m args below meth c H locs 0 0 (MQ below (QI G res.1 res.2) args s 0 0 (Ab G)) (F0 m 170 ls []) := by
  unfold BX3_answer_170 at h
  have hx := C.1.1
  have hb := C.1.2.1
  refine lv_iconst (v := 1) hx hb dX3_answer_170 (by decide) ?_
  refine lv_goto (tgt := 175) hx hb dX3_answer_171 (by decide) ?_
  exact sBX3_answer_175 C hr hr7 kl0 kl1 hd (lv_sub hl [0, 1, 2, 3] rfl) h
def KX3_answer_7 (r7 : Nat → Nat → Int32 → Int32 → St → Option (Int32 × St)) (l0 : Nat) (l1 : Nat) (l2 : Int32) (l3 : Int32) (S : St) : Option (Int32 × St) :=
  (if (S l0 3) ≤ l3 then (if l2 ≤ 0 then ri 0 S else rd S (sr l0 4) (l2 - 1) fun x4 => ri x4 S) else rd S (sr l0 1) l3 fun x6 => (if 0 ≤ x6 then (BX3_answer_35 r7 l0 l1 l2 l3 x6 S) else (if (-20) < x6 then (if l2 < 2 then (BX3_answer_290 r7 l0 l1 l2 l3 S) else vl (l2 + (-1)) fun x10 => rd S (sr l0 4) (x10 - 1) fun x12 => rd S (sr l0 4) x10 fun x14 => (if x6 = (-9) then vl (x12 * x14) fun x16 => (BX3_answer_280 r7 l0 l1 x10 l3 x16 S) else (if x6 = (-8) then vl (x12 - x14) fun x18 => (BX3_answer_280 r7 l0 l1 x10 l3 x18 S) else (if x6 = (-7) then vl (x12 + x14) fun x20 => (BX3_answer_280 r7 l0 l1 x10 l3 x20 S) else (if x6 = (-6) then (if x12 = x14 then (BX3_answer_229 r7 l0 l1 x10 l3 1 S) else (BX3_answer_229 r7 l0 l1 x10 l3 0 S)) else (if x6 = (-5) then (if x14 ≤ x12 then (BX3_answer_212 r7 l0 l1 x10 l3 0 S) else (BX3_answer_212 r7 l0 l1 x10 l3 1 S)) else (if x6 = (-3) then (if x12 = 0 then (BX3_answer_194 r7 l0 l1 x10 l3 S) else (if x14 = 0 then (BX3_answer_194 r7 l0 l1 x10 l3 S) else (BX3_answer_195 r7 l0 l1 x10 l3 1 S))) else (if x6 = (-2) then (if x12 = 0 then (if x14 = 0 then (BX3_answer_175 r7 l0 l1 x10 l3 0 S) else (BX3_answer_170 r7 l0 l1 x10 l3 S)) else (BX3_answer_170 r7 l0 l1 x10 l3 S)) else (BX3_answer_264 r7 l0 l1 x10 l3 x12 x14 S))))))))) else (BX3_answer_35 r7 l0 l1 l2 l3 x6 S))))
set_option maxHeartbeats 4000000 in
set_option maxRecDepth 20000 in
theorem sKX3_answer_7 (C : Cx p s m args meth c cX3_answer 7 RX3 G) (hr : meth.sig.returnType = some .int) {r7 : Nat → Nat → Int32 → Int32 → St → Option (Int32 × St)} (hr7 : ∀ (l0 : Nat) (l1 : Nat) (l2 : Int32) (l3 : Int32) (S : St) (res : (Int32 × St)) (H : Heap) (locs : List Loc) (ls : Array Slot), kd l0 = 3 → kd l1 = 20 → Dy G S s H locs → lv_has ls 7 [(0, .ref (gR G l0)), (1, .ref (gR G l1)), (2, .int l2), (3, .int l3)] → r7 l0 l1 l2 l3 S = some res → W p l e (rmL 3 0 0) s m args below meth c H locs 0 0 (MQ below (QI G res.1 res.2) args s 0 0 (Ab G)) (F0 m 7 ls [])) {l0 : Nat} {l1 : Nat} {l2 : Int32} {l3 : Int32} {S : St} {res : (Int32 × St)} {H : Heap} {locs : List Loc} {ls : Array Slot} (kl0 : kd l0 = 3) (kl1 : kd l1 = 20) (hd : Dy G S s H locs) (hl : lv_has ls 7 [(0, .ref (gR G l0)), (1, .ref (gR G l1)), (2, .int l2), (3, .int l3)]) (h : KX3_answer_7 r7 l0 l1 l2 l3 S = some res) : W p l e (rmL 3 0 0) s m args below meth c H locs 0 0 (MQ below (QI G res.1 res.2) args s 0 0 (Ab G)) (F0 m 7 ls []) := by
  unfold KX3_answer_7 at h
  have hx := C.1.1
  have hb := C.1.2.1
  refine lv_iload_n hx hb dX3_answer_7 rfl (lv_at hl 3 rfl) ?_
  refine lv_aload_n hx hb dX3_answer_8 rfl (lv_at hl 0 rfl) ?_
  refine gX3_24 C hd kl0 dX3_answer_9 ?_
  refine lv_icmp_ge (tgt := 296) hx hb dX3_answer_12 (by decide) (fun c1 => ?_) (fun c1 => ?_)
  · rw [if_pos c1] at h
    refine lv_iload_n hx hb dX3_answer_296 rfl (lv_at hl 2 rfl) ?_
    refine lv_if_le (tgt := 311) hx hb dX3_answer_297 (by decide) (fun c2 => ?_) (fun c2 => ?_)
    · rw [if_pos c2] at h
      refine lv_iconst (v := 0) hx hb dX3_answer_311 (by decide) ?_
      exact R_iret C hr hd h dX3_answer_312
    · rw [if_neg c2] at h
      refine lv_aload_n hx hb dX3_answer_300 rfl (lv_at hl 0 rfl) ?_
      refine gX3_7 C hd kl0 (q := sr l0 4) rfl dX3_answer_301 (fun y3 => ?_)
      refine lv_iload_n hx hb dX3_answer_304 rfl (lv_at hl 2 rfl) ?_
      refine lv_iconst (v := 1) hx hb dX3_answer_305 (by decide) ?_
      refine lv_isub hx hb dX3_answer_306 ?_
      refine R_iald C hd y3 h dX3_answer_307 (fun x4 h => ?_)
      refine lv_goto (tgt := 312) hx hb dX3_answer_308 (by decide) ?_
      exact R_iret C hr hd h dX3_answer_312
  · rw [if_neg c1] at h
    refine lv_aload_n hx hb dX3_answer_15 rfl (lv_at hl 0 rfl) ?_
    refine gX3_13 C hd kl0 (q := sr l0 1) rfl dX3_answer_16 (fun y5 => ?_)
    refine lv_iload_n hx hb dX3_answer_19 rfl (lv_at hl 3 rfl) ?_
    refine R_iald C hd y5 h dX3_answer_20 (fun x6 h => ?_)
    refine lv_istore (lv' := [(4, .int x6), (0, .ref (gR G l0)), (1, .ref (gR G l1)), (2, .int l2), (3, .int l3)]) hx hb dX3_answer_21 hl (by decide) rfl (fun ls hl => ?_)
    refine lv_iload hx hb dX3_answer_23 (lv_at hl 0 rfl) ?_
    refine lv_if_ge (tgt := 35) hx hb dX3_answer_25 (by decide) (fun c7 => ?_) (fun c7 => ?_)
    · rw [if_pos c7] at h
      exact sBX3_answer_35 C hr hr7 kl0 kl1 hd (lv_sub hl [1, 2, 3, 4, 0] rfl) h
    · rw [if_neg c7] at h
      refine lv_iload hx hb dX3_answer_28 (lv_at hl 0 rfl) ?_
      refine lv_bipush (v := -20) hx hb dX3_answer_30 (by decide) ?_
      refine lv_icmp_gt (tgt := 85) hx hb dX3_answer_32 (by decide) (fun c8 => ?_) (fun c8 => ?_)
      · rw [if_pos c8] at h
        refine lv_iload_n hx hb dX3_answer_85 rfl (lv_at hl 3 rfl) ?_
        refine lv_iconst (v := 2) hx hb dX3_answer_86 (by decide) ?_
        refine lv_icmp_lt (tgt := 290) hx hb dX3_answer_87 (by decide) (fun c9 => ?_) (fun c9 => ?_)
        · rw [if_pos c9] at h
          exact sBX3_answer_290 C hr hr7 kl0 kl1 hd (lv_sub hl [1, 2, 3, 4] rfl) h
        · rw [if_neg c9] at h
          refine R_vi h (fun x10 ex10 h => ?_)
          refine lv_iinc (v := x10) (lv' := [(2, .int x10), (4, .int x6), (0, .ref (gR G l0)), (1, .ref (gR G l1)), (3, .int l3)]) hx hb dX3_answer_90 hl (k := 3) rfl (by rw [ex10]; rfl) (by decide) rfl (fun ls hl => ?_)
          refine lv_aload_n hx hb dX3_answer_93 rfl (lv_at hl 2 rfl) ?_
          refine gX3_7 C hd kl0 (q := sr l0 4) rfl dX3_answer_94 (fun y11 => ?_)
          refine lv_iload_n hx hb dX3_answer_97 rfl (lv_at hl 0 rfl) ?_
          refine lv_iconst (v := 1) hx hb dX3_answer_98 (by decide) ?_
          refine lv_isub hx hb dX3_answer_99 ?_
          refine R_iald C hd y11 h dX3_answer_100 (fun x12 h => ?_)
          refine lv_istore (lv' := [(5, .int x12), (2, .int x10), (4, .int x6), (0, .ref (gR G l0)), (1, .ref (gR G l1)), (3, .int l3)]) hx hb dX3_answer_101 hl (by decide) rfl (fun ls hl => ?_)
          refine lv_aload_n hx hb dX3_answer_103 rfl (lv_at hl 3 rfl) ?_
          refine gX3_7 C hd kl0 (q := sr l0 4) rfl dX3_answer_104 (fun y13 => ?_)
          refine lv_iload_n hx hb dX3_answer_107 rfl (lv_at hl 1 rfl) ?_
          refine R_iald C hd y13 h dX3_answer_108 (fun x14 h => ?_)
          refine lv_istore (lv' := [(6, .int x14), (5, .int x12), (2, .int x10), (4, .int x6), (0, .ref (gR G l0)), (1, .ref (gR G l1)), (3, .int l3)]) hx hb dX3_answer_109 hl (by decide) rfl (fun ls hl => ?_)
          refine lv_iload hx hb dX3_answer_111 (lv_at hl 3 rfl) ?_
          by_cases c15 : x6 = (-9)
          · rw [if_pos c15] at h
            refine lv_tableIn (tgt := 254) hx hb dX3_answer_113 (by rw [c15]; decide) (by rw [c15]; decide) (by rw [c15] <;> rfl) (by decide) ?_
            refine lv_iload hx hb dX3_answer_254 (lv_at hl 1 rfl) ?_
            refine lv_iload hx hb dX3_answer_256 (lv_at hl 0 rfl) ?_
            refine lv_imul hx hb dX3_answer_258 ?_
            refine R_vl h (fun x16 h => ?_)
            refine lv_istore (lv' := [(5, .int x16), (6, .int x14), (2, .int x10), (4, .int x6), (0, .ref (gR G l0)), (1, .ref (gR G l1)), (3, .int l3)]) hx hb dX3_answer_259 hl (by decide) rfl (fun ls hl => ?_)
            refine lv_goto (tgt := 280) hx hb dX3_answer_261 (by decide) ?_
            exact sBX3_answer_280 C hr hr7 kl0 kl1 hd (lv_sub hl [4, 5, 2, 6, 0] rfl) h
          rw [if_neg c15] at h
          by_cases c17 : x6 = (-8)
          · rw [if_pos c17] at h
            refine lv_tableIn (tgt := 244) hx hb dX3_answer_113 (by rw [c17]; decide) (by rw [c17]; decide) (by rw [c17] <;> rfl) (by decide) ?_
            refine lv_iload hx hb dX3_answer_244 (lv_at hl 1 rfl) ?_
            refine lv_iload hx hb dX3_answer_246 (lv_at hl 0 rfl) ?_
            refine lv_isub hx hb dX3_answer_248 ?_
            refine R_vl h (fun x18 h => ?_)
            refine lv_istore (lv' := [(5, .int x18), (6, .int x14), (2, .int x10), (4, .int x6), (0, .ref (gR G l0)), (1, .ref (gR G l1)), (3, .int l3)]) hx hb dX3_answer_249 hl (by decide) rfl (fun ls hl => ?_)
            refine lv_goto (tgt := 280) hx hb dX3_answer_251 (by decide) ?_
            exact sBX3_answer_280 C hr hr7 kl0 kl1 hd (lv_sub hl [4, 5, 2, 6, 0] rfl) h
          rw [if_neg c17] at h
          by_cases c19 : x6 = (-7)
          · rw [if_pos c19] at h
            refine lv_tableIn (tgt := 234) hx hb dX3_answer_113 (by rw [c19]; decide) (by rw [c19]; decide) (by rw [c19] <;> rfl) (by decide) ?_
            refine lv_iload hx hb dX3_answer_234 (lv_at hl 1 rfl) ?_
            refine lv_iload hx hb dX3_answer_236 (lv_at hl 0 rfl) ?_
            refine lv_iadd hx hb dX3_answer_238 ?_
            refine R_vl h (fun x20 h => ?_)
            refine lv_istore (lv' := [(5, .int x20), (6, .int x14), (2, .int x10), (4, .int x6), (0, .ref (gR G l0)), (1, .ref (gR G l1)), (3, .int l3)]) hx hb dX3_answer_239 hl (by decide) rfl (fun ls hl => ?_)
            refine lv_goto (tgt := 280) hx hb dX3_answer_241 (by decide) ?_
            exact sBX3_answer_280 C hr hr7 kl0 kl1 hd (lv_sub hl [4, 5, 2, 6, 0] rfl) h
          rw [if_neg c19] at h
          by_cases c21 : x6 = (-6)
          · rw [if_pos c21] at h
            refine lv_tableIn (tgt := 217) hx hb dX3_answer_113 (by rw [c21]; decide) (by rw [c21]; decide) (by rw [c21] <;> rfl) (by decide) ?_
            refine lv_iload hx hb dX3_answer_217 (lv_at hl 1 rfl) ?_
            refine lv_iload hx hb dX3_answer_219 (lv_at hl 0 rfl) ?_
            refine lv_icmp_ne (tgt := 228) hx hb dX3_answer_221 (by decide) (fun c22 => ?_) (fun c22 => ?_)
            · rw [if_neg c22] at h
              refine lv_iconst (v := 0) hx hb dX3_answer_228 (by decide) ?_
              exact sBX3_answer_229 C hr hr7 kl0 kl1 hd (lv_sub hl [4, 5, 2, 6] rfl) h
            · rw [if_pos c22] at h
              refine lv_iconst (v := 1) hx hb dX3_answer_224 (by decide) ?_
              refine lv_goto (tgt := 229) hx hb dX3_answer_225 (by decide) ?_
              exact sBX3_answer_229 C hr hr7 kl0 kl1 hd (lv_sub hl [4, 5, 2, 6] rfl) h
          rw [if_neg c21] at h
          by_cases c23 : x6 = (-5)
          · rw [if_pos c23] at h
            refine lv_tableIn (tgt := 200) hx hb dX3_answer_113 (by rw [c23]; decide) (by rw [c23]; decide) (by rw [c23] <;> rfl) (by decide) ?_
            refine lv_iload hx hb dX3_answer_200 (lv_at hl 1 rfl) ?_
            refine lv_iload hx hb dX3_answer_202 (lv_at hl 0 rfl) ?_
            refine lv_icmp_ge (tgt := 211) hx hb dX3_answer_204 (by decide) (fun c24 => ?_) (fun c24 => ?_)
            · rw [if_pos c24] at h
              refine lv_iconst (v := 0) hx hb dX3_answer_211 (by decide) ?_
              exact sBX3_answer_212 C hr hr7 kl0 kl1 hd (lv_sub hl [4, 5, 2, 6] rfl) h
            · rw [if_neg c24] at h
              refine lv_iconst (v := 1) hx hb dX3_answer_207 (by decide) ?_
              refine lv_goto (tgt := 212) hx hb dX3_answer_208 (by decide) ?_
              exact sBX3_answer_212 C hr hr7 kl0 kl1 hd (lv_sub hl [4, 5, 2, 6] rfl) h
          rw [if_neg c23] at h
          by_cases c25 : x6 = (-3)
          · rw [if_pos c25] at h
            refine lv_tableIn (tgt := 180) hx hb dX3_answer_113 (by rw [c25]; decide) (by rw [c25]; decide) (by rw [c25] <;> rfl) (by decide) ?_
            refine lv_iload hx hb dX3_answer_180 (lv_at hl 1 rfl) ?_
            refine lv_if_eq (tgt := 194) hx hb dX3_answer_182 (by decide) (fun c26 => ?_) (fun c26 => ?_)
            · rw [if_pos c26] at h
              exact sBX3_answer_194 C hr hr7 kl0 kl1 hd (lv_sub hl [4, 5, 2, 6] rfl) h
            · rw [if_neg c26] at h
              refine lv_iload hx hb dX3_answer_185 (lv_at hl 0 rfl) ?_
              refine lv_if_eq (tgt := 194) hx hb dX3_answer_187 (by decide) (fun c27 => ?_) (fun c27 => ?_)
              · rw [if_pos c27] at h
                exact sBX3_answer_194 C hr hr7 kl0 kl1 hd (lv_sub hl [4, 5, 2, 6] rfl) h
              · rw [if_neg c27] at h
                refine lv_iconst (v := 1) hx hb dX3_answer_190 (by decide) ?_
                refine lv_goto (tgt := 195) hx hb dX3_answer_191 (by decide) ?_
                exact sBX3_answer_195 C hr hr7 kl0 kl1 hd (lv_sub hl [4, 5, 2, 6] rfl) h
          rw [if_neg c25] at h
          by_cases c28 : x6 = (-2)
          · rw [if_pos c28] at h
            refine lv_tableIn (tgt := 160) hx hb dX3_answer_113 (by rw [c28]; decide) (by rw [c28]; decide) (by rw [c28] <;> rfl) (by decide) ?_
            refine lv_iload hx hb dX3_answer_160 (lv_at hl 1 rfl) ?_
            refine lv_if_ne (tgt := 170) hx hb dX3_answer_162 (by decide) (fun c29 => ?_) (fun c29 => ?_)
            · rw [if_neg c29] at h
              exact sBX3_answer_170 C hr hr7 kl0 kl1 hd (lv_sub hl [4, 5, 2, 6] rfl) h
            · rw [if_pos c29] at h
              refine lv_iload hx hb dX3_answer_165 (lv_at hl 0 rfl) ?_
              refine lv_if_eq (tgt := 174) hx hb dX3_answer_167 (by decide) (fun c30 => ?_) (fun c30 => ?_)
              · rw [if_pos c30] at h
                refine lv_iconst (v := 0) hx hb dX3_answer_174 (by decide) ?_
                exact sBX3_answer_175 C hr hr7 kl0 kl1 hd (lv_sub hl [4, 5, 2, 6] rfl) h
              · rw [if_neg c30] at h
                exact sBX3_answer_170 C hr hr7 kl0 kl1 hd (lv_sub hl [4, 5, 2, 6] rfl) h
          rw [if_neg c28] at h
          refine R_tab (tgt := 264) C dX3_answer_113 (by decide) [-9, -8, -7, -6, -5, -3, -2] (by decide) ?_ ?_
          · intro z hz; simp only [List.mem_cons, List.not_mem_nil, or_false] at hz; rcases hz with rfl | rfl | rfl | rfl | rfl | rfl | rfl <;> assumption
          exact sBX3_answer_264 C hr hr7 kl0 kl1 hd (lv_sub hl [4, 5, 2, 6, 1, 0] rfl) h
      · rw [if_neg c8] at h
        exact sBX3_answer_35 C hr hr7 kl0 kl1 hd (lv_sub hl [1, 2, 3, 4, 0] rfl) h
def LX3_answer_7 : Nat → Nat → Nat → Int32 → Int32 → St → Option (Int32 × St)
  | 0 => fun _ _ _ _ _ => none
  | n + 1 => fun l0 l1 l2 l3 S => KX3_answer_7 (LX3_answer_7 n) l0 l1 l2 l3 S
theorem sLX3_answer_7 (C : Cx p s m args meth c cX3_answer 7 RX3 G) (hr : meth.sig.returnType = some .int) : ∀ (n : Nat) (l0 : Nat) (l1 : Nat) (l2 : Int32) (l3 : Int32) (S : St) (res : (Int32 × St)) (H : Heap) (locs : List Loc) (ls : Array Slot), kd l0 = 3 → kd l1 = 20 → Dy G S s H locs → lv_has ls 7 [(0, .ref (gR G l0)), (1, .ref (gR G l1)), (2, .int l2), (3, .int l3)] → LX3_answer_7 n l0 l1 l2 l3 S = some res → W p l e (rmL 3 0 0) s m args below meth c H locs 0 0 (MQ below (QI G res.1 res.2) args s 0 0 (Ab G)) (F0 m 7 ls []) := by
  intro n
  induction n with
  | zero => intro l0 l1 l2 l3 S res H locs ls kl0 kl1 hd hl h; cases h
  | succ n ih =>
    intro l0 l1 l2 l3 S res H locs ls kl0 kl1 hd hl h
    exact sKX3_answer_7 C hr ih kl0 kl1 hd hl h
def fX3_answer (a0 : Nat) (a1 : Nat) (S : St) : Option (Int32 × St) :=
  vl (S a0 2) fun x1 => (LX3_answer_7 FU a0 a1 0 x1 S)
set_option maxHeartbeats 4000000 in
set_option maxRecDepth 20000 in
theorem sfX3_answer (C : Cx p s m args meth c cX3_answer 7 RX3 G) (hr : meth.sig.returnType = some .int) {a0 : Nat} {a1 : Nat} {S : St} {res : (Int32 × St)} {H : Heap} {locs : List Loc} {ls : Array Slot} (k0 : kd a0 = 3) (k1 : kd a1 = 20) (hd : Dy G S s H locs) (hl : lv_has ls 7 [(0, .ref (gR G a0)), (1, .ref (gR G a1))]) (h : fX3_answer a0 a1 S = some res) : W p l e (rmL 3 0 0) s m args below meth c H locs 0 0 (MQ below (QI G res.1 res.2) args s 0 0 (Ab G)) (F0 m 0 ls []) := by
  unfold fX3_answer at h
  have hx := C.1.1
  have hb := C.1.2.1
  refine lv_iconst (v := 0) hx hb dX3_answer_0 (by decide) ?_
  refine lv_istore_n (lv' := [(2, .int 0), (0, .ref (gR G a0)), (1, .ref (gR G a1))]) hx hb dX3_answer_1 rfl hl (by decide) rfl (fun ls hl => ?_)
  refine lv_aload_n hx hb dX3_answer_2 rfl (lv_at hl 1 rfl) ?_
  refine gX3_20 C hd k0 dX3_answer_3 ?_
  refine R_vl h (fun x1 h => ?_)
  refine lv_istore_n (lv' := [(3, .int x1), (2, .int 0), (0, .ref (gR G a0)), (1, .ref (gR G a1))]) hx hb dX3_answer_6 rfl hl (by decide) rfl (fun ls hl => ?_)
  exact sLX3_answer_7 C hr _ a0 a1 0 x1 _ _ _ _ _ k0 k1 hd (lv_sub hl [2, 3, 1, 0] rfl) h
set_option maxRecDepth 20000 in
theorem ccX3_answer (l : Launch) (G : Gt) {a0 : Nat} {a1 : Nat} {S : St} {res : (Int32 × St)} (k0 : kd a0 = 3) (k1 : kd a1 = 20) (h : fX3_answer a0 a1 S = some res) : Met l yX3_answer (wm yX3_answer cX3_answer 7 (some .int)) (rmL 3 0 0) (PcW G S [.ref (gR G a0), .ref (gR G a1)]) (QI G res.1 res.2) 0 0 (Ab G) := by
  refine Met.ofW (cc := cX3_answer) (maxL := 7) (ret := (some .int)) (by decide) rfl ?_
  intro p e s m args below meth c s₁ B hml hv
  obtain ⟨rfl, hK, hP⟩ := hv
  have C : Cx p s m _ meth c cX3_answer 7 RX3 G := ⟨⟨B.exec, B.bytes, hml, findClass_of_methodNamed B.named, fun w hw => atoms_spec (ws := wm yX3_answer cX3_answer 7 (some .int)) B.pre w (List.mem_cons_of_mem _ hw)⟩, B.notSynchronized, hK⟩
  have hl := lv_entry ([.ref (gR G a0), .ref (gR G a1)]) (n := 7) (Nat.le_of_ble_eq_true rfl)
  rw [lg_entry_eq]
  generalize (lg_sl ([.ref (gR G a0), .ref (gR G a1)]) ++ List.replicate (7 - (lg_sl ([.ref (gR G a0), .ref (gR G a1)])).length) Slot.unset).toArray = ls at hl ⊢
  exact sfX3_answer C B.returns k0 k1 ⟨hP, va_S.rf⟩ hl h
def KX4_lastHeardHour_4 (r4 : Nat → Int32 → Int32 → St → Option (Int32 × St)) (l0 : Nat) (l1 : Int32) (l2 : Int32) (S : St) : Option (Int32 × St) :=
  (if (S l0 4) ≤ l2 then ri l1 S else rd S (sr l0 6) l2 fun x3 => vl (if l1 < x3 then x3 else l1) fun x4 => vl (l2 + 1) fun x5 => (r4 l0 x4 x5 S))
set_option maxHeartbeats 4000000 in
set_option maxRecDepth 20000 in
theorem sKX4_lastHeardHour_4 (C : Cx p s m args meth c cX4_lastHeardHour 3 RX4 G) (hr : meth.sig.returnType = some .int) {r4 : Nat → Int32 → Int32 → St → Option (Int32 × St)} (hr4 : ∀ (l0 : Nat) (l1 : Int32) (l2 : Int32) (S : St) (res : (Int32 × St)) (H : Heap) (locs : List Loc) (ls : Array Slot), kd l0 = 4 → Dy G S s H locs → lv_has ls 3 [(0, .ref (gR G l0)), (1, .int l1), (2, .int l2)] → r4 l0 l1 l2 S = some res → W p l e (rmL 3 0 0) s m args below meth c H locs 0 0 (MQ below (QI G res.1 res.2) args s 0 0 (Ab G)) (F0 m 4 ls [])) {l0 : Nat} {l1 : Int32} {l2 : Int32} {S : St} {res : (Int32 × St)} {H : Heap} {locs : List Loc} {ls : Array Slot} (kl0 : kd l0 = 4) (hd : Dy G S s H locs) (hl : lv_has ls 3 [(0, .ref (gR G l0)), (1, .int l1), (2, .int l2)]) (h : KX4_lastHeardHour_4 r4 l0 l1 l2 S = some res) : W p l e (rmL 3 0 0) s m args below meth c H locs 0 0 (MQ below (QI G res.1 res.2) args s 0 0 (Ab G)) (F0 m 4 ls []) := by
  unfold KX4_lastHeardHour_4 at h
  have hx := C.1.1
  have hb := C.1.2.1
  refine lv_iload_n hx hb dX4_lastHeardHour_4 rfl (lv_at hl 2 rfl) ?_
  refine lv_aload_n hx hb dX4_lastHeardHour_5 rfl (lv_at hl 0 rfl) ?_
  refine gX4_62 C hd kl0 dX4_lastHeardHour_6 ?_
  refine lv_icmp_ge (tgt := 29) hx hb dX4_lastHeardHour_9 (by decide) (fun c1 => ?_) (fun c1 => ?_)
  · rw [if_pos c1] at h
    refine lv_iload_n hx hb dX4_lastHeardHour_29 rfl (lv_at hl 1 rfl) ?_
    exact R_iret C hr hd h dX4_lastHeardHour_30
  · rw [if_neg c1] at h
    refine lv_iload_n hx hb dX4_lastHeardHour_12 rfl (lv_at hl 1 rfl) ?_
    refine lv_aload_n hx hb dX4_lastHeardHour_13 rfl (lv_at hl 0 rfl) ?_
    refine gX4_23 C hd kl0 (q := sr l0 6) rfl dX4_lastHeardHour_14 (fun y2 => ?_)
    refine lv_iload_n hx hb dX4_lastHeardHour_17 rfl (lv_at hl 2 rfl) ?_
    refine R_iald C hd y2 h dX4_lastHeardHour_18 (fun x3 h => ?_)
    refine R_mmax C hl.1 kmX4_65 (Nat.le_of_ble_eq_true rfl) (Nat.le_of_ble_eq_true rfl) (Nat.le_of_ble_eq_true rfl) (Nat.le_of_ble_eq_true rfl) dX4_lastHeardHour_19 ?_
    refine R_vl h (fun x4 h => ?_)
    refine lv_istore_n (lv' := [(1, .int x4), (0, .ref (gR G l0)), (2, .int l2)]) hx hb dX4_lastHeardHour_22 rfl hl (by decide) rfl (fun ls hl => ?_)
    refine R_vi h (fun x5 ex5 h => ?_)
    refine lv_iinc (v := x5) (lv' := [(2, .int x5), (1, .int x4), (0, .ref (gR G l0))]) hx hb dX4_lastHeardHour_23 hl (k := 2) rfl (by rw [ex5]; rfl) (by decide) rfl (fun ls hl => ?_)
    refine lv_goto (tgt := 4) hx hb dX4_lastHeardHour_26 (by decide) ?_
    exact hr4 l0 x4 x5 _ _ _ _ _ kl0 hd (lv_sub hl [2, 1, 0] rfl) h
def LX4_lastHeardHour_4 : Nat → Nat → Int32 → Int32 → St → Option (Int32 × St)
  | 0 => fun _ _ _ _ => none
  | n + 1 => fun l0 l1 l2 S => KX4_lastHeardHour_4 (LX4_lastHeardHour_4 n) l0 l1 l2 S
theorem sLX4_lastHeardHour_4 (C : Cx p s m args meth c cX4_lastHeardHour 3 RX4 G) (hr : meth.sig.returnType = some .int) : ∀ (n : Nat) (l0 : Nat) (l1 : Int32) (l2 : Int32) (S : St) (res : (Int32 × St)) (H : Heap) (locs : List Loc) (ls : Array Slot), kd l0 = 4 → Dy G S s H locs → lv_has ls 3 [(0, .ref (gR G l0)), (1, .int l1), (2, .int l2)] → LX4_lastHeardHour_4 n l0 l1 l2 S = some res → W p l e (rmL 3 0 0) s m args below meth c H locs 0 0 (MQ below (QI G res.1 res.2) args s 0 0 (Ab G)) (F0 m 4 ls []) := by
  intro n
  induction n with
  | zero => intro l0 l1 l2 S res H locs ls kl0 hd hl h; cases h
  | succ n ih =>
    intro l0 l1 l2 S res H locs ls kl0 hd hl h
    exact sKX4_lastHeardHour_4 C hr ih kl0 hd hl h
def fX4_lastHeardHour (a0 : Nat) (S : St) : Option (Int32 × St) :=
  (LX4_lastHeardHour_4 FU a0 0 0 S)
set_option maxHeartbeats 4000000 in
set_option maxRecDepth 20000 in
theorem sfX4_lastHeardHour (C : Cx p s m args meth c cX4_lastHeardHour 3 RX4 G) (hr : meth.sig.returnType = some .int) {a0 : Nat} {S : St} {res : (Int32 × St)} {H : Heap} {locs : List Loc} {ls : Array Slot} (k0 : kd a0 = 4) (hd : Dy G S s H locs) (hl : lv_has ls 3 [(0, .ref (gR G a0))]) (h : fX4_lastHeardHour a0 S = some res) : W p l e (rmL 3 0 0) s m args below meth c H locs 0 0 (MQ below (QI G res.1 res.2) args s 0 0 (Ab G)) (F0 m 0 ls []) := by
  unfold fX4_lastHeardHour at h
  have hx := C.1.1
  have hb := C.1.2.1
  refine lv_iconst (v := 0) hx hb dX4_lastHeardHour_0 (by decide) ?_
  refine lv_istore_n (lv' := [(1, .int 0), (0, .ref (gR G a0))]) hx hb dX4_lastHeardHour_1 rfl hl (by decide) rfl (fun ls hl => ?_)
  refine lv_iconst (v := 0) hx hb dX4_lastHeardHour_2 (by decide) ?_
  refine lv_istore_n (lv' := [(2, .int 0), (1, .int 0), (0, .ref (gR G a0))]) hx hb dX4_lastHeardHour_3 rfl hl (by decide) rfl (fun ls hl => ?_)
  exact sLX4_lastHeardHour_4 C hr _ a0 0 0 _ _ _ _ _ k0 hd (lv_sub hl [2, 1, 0] rfl) h
set_option maxRecDepth 20000 in
theorem ccX4_lastHeardHour (l : Launch) (G : Gt) {a0 : Nat} {S : St} {res : (Int32 × St)} (k0 : kd a0 = 4) (h : fX4_lastHeardHour a0 S = some res) : Met l yX4_lastHeardHour (wm yX4_lastHeardHour cX4_lastHeardHour 3 (some .int)) (rmL 3 0 0) (PcW G S [.ref (gR G a0)]) (QI G res.1 res.2) 0 0 (Ab G) := by
  refine Met.ofW (cc := cX4_lastHeardHour) (maxL := 3) (ret := (some .int)) (by decide) rfl ?_
  intro p e s m args below meth c s₁ B hml hv
  obtain ⟨rfl, hK, hP⟩ := hv
  have C : Cx p s m _ meth c cX4_lastHeardHour 3 RX4 G := ⟨⟨B.exec, B.bytes, hml, findClass_of_methodNamed B.named, fun w hw => atoms_spec (ws := wm yX4_lastHeardHour cX4_lastHeardHour 3 (some .int)) B.pre w (List.mem_cons_of_mem _ hw)⟩, B.notSynchronized, hK⟩
  have hl := lv_entry ([.ref (gR G a0)]) (n := 3) (Nat.le_of_ble_eq_true rfl)
  rw [lg_entry_eq]
  generalize (lg_sl ([.ref (gR G a0)]) ++ List.replicate (3 - (lg_sl ([.ref (gR G a0)])).length) Slot.unset).toArray = ls at hl ⊢
  exact sfX4_lastHeardHour C B.returns k0 ⟨hP, va_S.rf⟩ hl h
def KX7_is_28 (r28 : Nat → Int32 → St → Option (Int32 × St)) (l1 : Nat) (l2 : Int32) (S : St) : Option (Int32 × St) :=
  sl l1 fun x1 => (if x1 ≤ l2 then rz 1 S else (if (S 33 1) ≤ ((S 33 4) + l2) then rz 1 S else rd S 1 ((S 33 4) + l2) fun x5 => sh l1 l2 fun x6 => (if x5 = x6 then vl (l2 + 1) fun x8 => (r28 l1 x8 S) else rz 0 S)))
set_option maxHeartbeats 4000000 in
set_option maxRecDepth 20000 in
theorem sKX7_is_28 (C : Cx p s m args meth c cX7_is 3 RX7 G) (hr : meth.sig.returnType = some .boolean) {r28 : Nat → Int32 → St → Option (Int32 × St)} (hr28 : ∀ (l1 : Nat) (l2 : Int32) (S : St) (res : (Int32 × St)) (H : Heap) (locs : List Loc) (ls : Array Slot), Dy G S s H locs → lv_has ls 3 [(0, .ref (gR G 33)), (1, .ref (gK G l1)), (2, .int l2)] → r28 l1 l2 S = some res → W p l e (rmL 6 0 0) s m args below meth c H locs 0 0 (MQ below (QI G res.1 res.2) args s 0 0 (Ab G)) (F0 m 28 ls [])) {l1 : Nat} {l2 : Int32} {S : St} {res : (Int32 × St)} {H : Heap} {locs : List Loc} {ls : Array Slot}  (hd : Dy G S s H locs) (hl : lv_has ls 3 [(0, .ref (gR G 33)), (1, .ref (gK G l1)), (2, .int l2)]) (h : KX7_is_28 r28 l1 l2 S = some res) : W p l e (rmL 6 0 0) s m args below meth c H locs 0 0 (MQ below (QI G res.1 res.2) args s 0 0 (Ab G)) (F0 m 28 ls []) := by
  unfold KX7_is_28 at h
  have hx := C.1.1
  have hb := C.1.2.1
  refine lv_iload_n hx hb dX7_is_28 rfl (lv_at hl 2 rfl) ?_
  refine lv_aload_n hx hb dX7_is_29 rfl (lv_at hl 1 rfl) ?_
  refine R_slen C hl.1 ksX7_42 hd h ⟨by decide, by decide⟩ (Nat.le_of_ble_eq_true rfl) ⟨Nat.zero_le _, Nat.zero_le _⟩ dX7_is_30 (fun x1 H locs hd h => ?_)
  refine lv_icmp_ge (tgt := 76) hx hb dX7_is_33 (by decide) (fun c2 => ?_) (fun c2 => ?_)
  · rw [if_pos c2] at h
    refine lv_iconst (v := 1) hx hb dX7_is_76 (by decide) ?_
    exact R_zret C hr hd h dX7_is_77
  · rw [if_neg c2] at h
    refine lv_aload_n hx hb dX7_is_36 rfl (lv_at hl 0 rfl) ?_
    refine gX7_29 C hd (rfl : kd 33 = 7) dX7_is_37 ?_
    refine lv_iload_n hx hb dX7_is_40 rfl (lv_at hl 2 rfl) ?_
    refine lv_iadd hx hb dX7_is_41 ?_
    refine lv_aload_n hx hb dX7_is_42 rfl (lv_at hl 0 rfl) ?_
    refine gX7_19 C hd (rfl : kd 33 = 7) dX7_is_43 ?_
    refine lv_icmp_ge (tgt := 76) hx hb dX7_is_46 (by decide) (fun c3 => ?_) (fun c3 => ?_)
    · rw [if_pos c3] at h
      refine lv_iconst (v := 1) hx hb dX7_is_76 (by decide) ?_
      exact R_zret C hr hd h dX7_is_77
    · rw [if_neg c3] at h
      refine lv_aload_n hx hb dX7_is_49 rfl (lv_at hl 0 rfl) ?_
      refine gX7_7 C hd (rfl : kd 33 = 7) (q := 1) rfl dX7_is_50 (fun y4 => ?_)
      refine lv_aload_n hx hb dX7_is_53 rfl (lv_at hl 0 rfl) ?_
      refine gX7_29 C hd (rfl : kd 33 = 7) dX7_is_54 ?_
      refine lv_iload_n hx hb dX7_is_57 rfl (lv_at hl 2 rfl) ?_
      refine lv_iadd hx hb dX7_is_58 ?_
      refine R_bald C hd y4 h dX7_is_59 (fun x5 h => ?_)
      refine lv_aload_n hx hb dX7_is_60 rfl (lv_at hl 1 rfl) ?_
      refine lv_iload_n hx hb dX7_is_61 rfl (lv_at hl 2 rfl) ?_
      refine R_sch C hl.1 ksX7_47 hd h ⟨by decide, by decide⟩ (Nat.le_of_ble_eq_true rfl) ⟨Nat.zero_le _, Nat.zero_le _⟩ dX7_is_62 (fun x6 H locs hd h => ?_)
      refine lv_icmp_eq (tgt := 70) hx hb dX7_is_65 (by decide) (fun c7 => ?_) (fun c7 => ?_)
      · rw [if_pos c7] at h
        refine R_vi h (fun x8 ex8 h => ?_)
        refine lv_iinc (v := x8) (lv' := [(2, .int x8), (0, .ref (gR G 33)), (1, .ref (gK G l1))]) hx hb dX7_is_70 hl (k := 2) rfl (by rw [ex8]; rfl) (by decide) rfl (fun ls hl => ?_)
        refine lv_goto (tgt := 28) hx hb dX7_is_73 (by decide) ?_
        exact hr28 l1 x8 _ _ _ _ _  hd (lv_sub hl [1, 2, 0] rfl) h
      · rw [if_neg c7] at h
        refine lv_iconst (v := 0) hx hb dX7_is_68 (by decide) ?_
        exact R_zret C hr hd h dX7_is_69
def LX7_is_28 : Nat → Nat → Int32 → St → Option (Int32 × St)
  | 0 => fun _ _ _ => none
  | n + 1 => fun l1 l2 S => KX7_is_28 (LX7_is_28 n) l1 l2 S
theorem sLX7_is_28 (C : Cx p s m args meth c cX7_is 3 RX7 G) (hr : meth.sig.returnType = some .boolean) : ∀ (n : Nat) (l1 : Nat) (l2 : Int32) (S : St) (res : (Int32 × St)) (H : Heap) (locs : List Loc) (ls : Array Slot), Dy G S s H locs → lv_has ls 3 [(0, .ref (gR G 33)), (1, .ref (gK G l1)), (2, .int l2)] → LX7_is_28 n l1 l2 S = some res → W p l e (rmL 6 0 0) s m args below meth c H locs 0 0 (MQ below (QI G res.1 res.2) args s 0 0 (Ab G)) (F0 m 28 ls []) := by
  intro n
  induction n with
  | zero => intro l1 l2 S res H locs ls  hd hl h; cases h
  | succ n ih =>
    intro l1 l2 S res H locs ls  hd hl h
    exact sKX7_is_28 C hr ih  hd hl h
def fX7_is (a1 : Nat) (S : St) : Option (Int32 × St) :=
  (if (S 33 3) = 1 then sl a1 fun x2 => (if ((S 33 2) - (S 33 4)) = x2 then (LX7_is_28 FU a1 0 S) else rz 0 S) else rz 0 S)
set_option maxHeartbeats 4000000 in
set_option maxRecDepth 20000 in
theorem sfX7_is (C : Cx p s m args meth c cX7_is 3 RX7 G) (hr : meth.sig.returnType = some .boolean) {a1 : Nat} {S : St} {res : (Int32 × St)} {H : Heap} {locs : List Loc} {ls : Array Slot}  (hd : Dy G S s H locs) (hl : lv_has ls 3 [(0, .ref (gR G 33)), (1, .ref (gK G a1))]) (h : fX7_is a1 S = some res) : W p l e (rmL 6 0 0) s m args below meth c H locs 0 0 (MQ below (QI G res.1 res.2) args s 0 0 (Ab G)) (F0 m 0 ls []) := by
  unfold fX7_is at h
  have hx := C.1.1
  have hb := C.1.2.1
  refine lv_aload_n hx hb dX7_is_0 rfl (lv_at hl 0 rfl) ?_
  refine gX7_32 C hd (rfl : kd 33 = 7) dX7_is_1 ?_
  refine lv_iconst (v := 1) hx hb dX7_is_4 (by decide) ?_
  refine lv_icmp_ne (tgt := 24) hx hb dX7_is_5 (by decide) (fun c1 => ?_) (fun c1 => ?_)
  · rw [if_neg c1] at h
    refine lv_iconst (v := 0) hx hb dX7_is_24 (by decide) ?_
    exact R_zret C hr hd h dX7_is_25
  · rw [if_pos c1] at h
    refine lv_aload_n hx hb dX7_is_8 rfl (lv_at hl 0 rfl) ?_
    refine gX7_23 C hd (rfl : kd 33 = 7) dX7_is_9 ?_
    refine lv_aload_n hx hb dX7_is_12 rfl (lv_at hl 0 rfl) ?_
    refine gX7_29 C hd (rfl : kd 33 = 7) dX7_is_13 ?_
    refine lv_isub hx hb dX7_is_16 ?_
    refine lv_aload_n hx hb dX7_is_17 rfl (lv_at hl 1 rfl) ?_
    refine R_slen C hl.1 ksX7_42 hd h ⟨by decide, by decide⟩ (Nat.le_of_ble_eq_true rfl) ⟨Nat.zero_le _, Nat.zero_le _⟩ dX7_is_18 (fun x2 H locs hd h => ?_)
    refine lv_icmp_eq (tgt := 26) hx hb dX7_is_21 (by decide) (fun c3 => ?_) (fun c3 => ?_)
    · rw [if_pos c3] at h
      refine lv_iconst (v := 0) hx hb dX7_is_26 (by decide) ?_
      refine lv_istore_n (lv' := [(2, .int 0), (0, .ref (gR G 33)), (1, .ref (gK G a1))]) hx hb dX7_is_27 rfl hl (by decide) rfl (fun ls hl => ?_)
      exact sLX7_is_28 C hr _ a1 0 _ _ _ _ _  hd (lv_sub hl [1, 2, 0] rfl) h
    · rw [if_neg c3] at h
      refine lv_iconst (v := 0) hx hb dX7_is_24 (by decide) ?_
      exact R_zret C hr hd h dX7_is_25
set_option maxRecDepth 20000 in
theorem ccX7_is (l : Launch) (G : Gt) {a1 : Nat} {S : St} {res : (Int32 × St)}  (h : fX7_is a1 S = some res) : Met l yX7_is (wm yX7_is cX7_is 3 (some .boolean)) (rmL 6 0 0) (PcW G S [.ref (gR G 33), .ref (gK G a1)]) (QI G res.1 res.2) 0 0 (Ab G) := by
  refine Met.ofW (cc := cX7_is) (maxL := 3) (ret := (some .boolean)) (by decide) rfl ?_
  intro p e s m args below meth c s₁ B hml hv
  obtain ⟨rfl, hK, hP⟩ := hv
  have C : Cx p s m _ meth c cX7_is 3 RX7 G := ⟨⟨B.exec, B.bytes, hml, findClass_of_methodNamed B.named, fun w hw => atoms_spec (ws := wm yX7_is cX7_is 3 (some .boolean)) B.pre w (List.mem_cons_of_mem _ hw)⟩, B.notSynchronized, hK⟩
  have hl := lv_entry ([.ref (gR G 33), .ref (gK G a1)]) (n := 3) (Nat.le_of_ble_eq_true rfl)
  rw [lg_entry_eq]
  generalize (lg_sl ([.ref (gR G 33), .ref (gK G a1)]) ++ List.replicate (3 - (lg_sl ([.ref (gR G 33), .ref (gK G a1)])).length) Slot.unset).toArray = ls at hl ⊢
  exact sfX7_is C B.returns  ⟨hP, va_S.rf⟩ hl h
def BX3_add_40 (l0 : Nat) (l1 : Int32) (s0 : Nat) (s1 : Int32) (s2 : Int32) (S : St) : Option St :=
  wr S s0 s1 s2 fun S => pf S l0 3 ((S l0 3) + 1) fun S => (if l1 = (-4) then wr S (sr l0 1) (S l0 3) ((-6)) fun S => pf S l0 3 ((S l0 3) + 1) fun S => some S else some S)
set_option maxHeartbeats 4000000 in
set_option maxRecDepth 20000 in
theorem sBX3_add_40 (C : Cx p s m args meth c cX3_add 2 RX3 G) (hr : meth.sig.returnType = none) {l0 : Nat} {l1 : Int32} {s0 : Nat} {s1 : Int32} {s2 : Int32} {S : St} {res : St} {H : Heap} {locs : List Loc} {ls : Array Slot} (kl0 : kd l0 = 3) (ks0 : kd s0 = 20) (hd : Dy G S s H locs) (hl : lv_has ls 2 [(0, .ref (gR G l0)), (1, .int l1)]) (h : BX3_add_40 l0 l1 s0 s1 s2 S = some res) : W p l e (rmL 3 0 0) s m args below meth c H locs 0 0 (MQ below (QV G res) args s 0 0 (Ab G)) (F0 m 40 ls [.int s2, .int s1, .ref (gR G s0)]) := by
  unfold BX3_add_40 at h
  have hx := C.1.1
  have hb := C.1.2.1
  refine R_iast C hd ks0 h dX3_add_40 (fun S H locs hd h => ?_)
  refine lv_aload_n hx hb dX3_add_41 rfl (lv_at hl 0 rfl) ?_
  refine lv_dup hx hb dX3_add_42 rfl ?_
  refine gX3_24 C hd kl0 dX3_add_43 ?_
  refine lv_iconst (v := 1) hx hb dX3_add_46 (by decide) ?_
  refine lv_iadd hx hb dX3_add_47 ?_
  refine pX3_24 C hd kl0 h dX3_add_48 (fun S H locs hd h => ?_)
  refine lv_iload_n hx hb dX3_add_51 rfl (lv_at hl 1 rfl) ?_
  refine lv_bipush (v := -4) hx hb dX3_add_52 (by decide) ?_
  refine lv_icmp_ne (tgt := 78) hx hb dX3_add_54 (by decide) (fun c1 => ?_) (fun c1 => ?_)
  · rw [if_neg c1] at h
    exact R_vret C hr hd h dX3_add_78
  · rw [if_pos c1] at h
    refine lv_aload_n hx hb dX3_add_57 rfl (lv_at hl 0 rfl) ?_
    refine gX3_13 C hd kl0 (q := sr l0 1) rfl dX3_add_58 (fun y2 => ?_)
    refine lv_aload_n hx hb dX3_add_61 rfl (lv_at hl 0 rfl) ?_
    refine gX3_24 C hd kl0 dX3_add_62 ?_
    refine lv_bipush (v := -6) hx hb dX3_add_65 (by decide) ?_
    refine R_iast C hd y2 h dX3_add_67 (fun S H locs hd h => ?_)
    refine lv_aload_n hx hb dX3_add_68 rfl (lv_at hl 0 rfl) ?_
    refine lv_dup hx hb dX3_add_69 rfl ?_
    refine gX3_24 C hd kl0 dX3_add_70 ?_
    refine lv_iconst (v := 1) hx hb dX3_add_73 (by decide) ?_
    refine lv_iadd hx hb dX3_add_74 ?_
    refine pX3_24 C hd kl0 h dX3_add_75 (fun S H locs hd h => ?_)
    exact R_vret C hr hd h dX3_add_78
def fX3_add (a0 : Nat) (a1 : Int32) (S : St) : Option St :=
  (if (S a0 3) < 0 then some S else (if ((nI (ln (sr a0 1))) - 1) ≤ (S a0 3) then some S else (if a1 = (-4) then (BX3_add_40 a0 a1 (sr a0 1) (S a0 3) 0 S) else (BX3_add_40 a0 a1 (sr a0 1) (S a0 3) a1 S))))
set_option maxHeartbeats 4000000 in
set_option maxRecDepth 20000 in
theorem sfX3_add (C : Cx p s m args meth c cX3_add 2 RX3 G) (hr : meth.sig.returnType = none) {a0 : Nat} {a1 : Int32} {S : St} {res : St} {H : Heap} {locs : List Loc} {ls : Array Slot} (k0 : kd a0 = 3) (hd : Dy G S s H locs) (hl : lv_has ls 2 [(0, .ref (gR G a0)), (1, .int a1)]) (h : fX3_add a0 a1 S = some res) : W p l e (rmL 3 0 0) s m args below meth c H locs 0 0 (MQ below (QV G res) args s 0 0 (Ab G)) (F0 m 0 ls []) := by
  unfold fX3_add at h
  have hx := C.1.1
  have hb := C.1.2.1
  refine lv_aload_n hx hb dX3_add_0 rfl (lv_at hl 0 rfl) ?_
  refine gX3_24 C hd k0 dX3_add_1 ?_
  refine lv_if_lt (tgt := 78) hx hb dX3_add_4 (by decide) (fun c1 => ?_) (fun c1 => ?_)
  · rw [if_pos c1] at h
    exact R_vret C hr hd h dX3_add_78
  · rw [if_neg c1] at h
    refine lv_aload_n hx hb dX3_add_7 rfl (lv_at hl 0 rfl) ?_
    refine gX3_24 C hd k0 dX3_add_8 ?_
    refine lv_aload_n hx hb dX3_add_11 rfl (lv_at hl 0 rfl) ?_
    refine gX3_13 C hd k0 (q := sr a0 1) rfl dX3_add_12 (fun y2 => ?_)
    refine R_alen C hd y2 (v := nI (ln (sr a0 1))) rfl dX3_add_15 ?_
    refine lv_iconst (v := 1) hx hb dX3_add_16 (by decide) ?_
    refine lv_isub hx hb dX3_add_17 ?_
    refine lv_icmp_ge (tgt := 78) hx hb dX3_add_18 (by decide) (fun c3 => ?_) (fun c3 => ?_)
    · rw [if_pos c3] at h
      exact R_vret C hr hd h dX3_add_78
    · rw [if_neg c3] at h
      refine lv_aload_n hx hb dX3_add_21 rfl (lv_at hl 0 rfl) ?_
      refine gX3_13 C hd k0 (q := sr a0 1) rfl dX3_add_22 (fun y4 => ?_)
      refine lv_aload_n hx hb dX3_add_25 rfl (lv_at hl 0 rfl) ?_
      refine gX3_24 C hd k0 dX3_add_26 ?_
      refine lv_iload_n hx hb dX3_add_29 rfl (lv_at hl 1 rfl) ?_
      refine lv_bipush (v := -4) hx hb dX3_add_30 (by decide) ?_
      refine lv_icmp_ne (tgt := 39) hx hb dX3_add_32 (by decide) (fun c5 => ?_) (fun c5 => ?_)
      · rw [if_neg c5] at h
        refine lv_iload_n hx hb dX3_add_39 rfl (lv_at hl 1 rfl) ?_
        exact sBX3_add_40 C hr k0 y4 hd (lv_sub hl [0, 1] rfl) h
      · rw [if_pos c5] at h
        refine lv_iconst (v := 0) hx hb dX3_add_35 (by decide) ?_
        refine lv_goto (tgt := 40) hx hb dX3_add_36 (by decide) ?_
        exact sBX3_add_40 C hr k0 y4 hd (lv_sub hl [0, 1] rfl) h
set_option maxRecDepth 20000 in
theorem ccX3_add (l : Launch) (G : Gt) {a0 : Nat} {a1 : Int32} {S : St} {res : St} (k0 : kd a0 = 3) (h : fX3_add a0 a1 S = some res) : Met l yX3_add (wm yX3_add cX3_add 2 (none)) (rmL 3 0 0) (PcW G S [.ref (gR G a0), .int a1]) (QV G res) 0 0 (Ab G) := by
  refine Met.ofW (cc := cX3_add) (maxL := 2) (ret := none) (by decide) rfl ?_
  intro p e s m args below meth c s₁ B hml hv
  obtain ⟨rfl, hK, hP⟩ := hv
  have C : Cx p s m _ meth c cX3_add 2 RX3 G := ⟨⟨B.exec, B.bytes, hml, findClass_of_methodNamed B.named, fun w hw => atoms_spec (ws := wm yX3_add cX3_add 2 (none)) B.pre w (List.mem_cons_of_mem _ hw)⟩, B.notSynchronized, hK⟩
  have hl := lv_entry ([.ref (gR G a0), .int a1]) (n := 2) (Nat.le_of_ble_eq_true rfl)
  rw [lg_entry_eq]
  generalize (lg_sl ([.ref (gR G a0), .int a1]) ++ List.replicate (2 - (lg_sl ([.ref (gR G a0), .int a1])).length) Slot.unset).toArray = ls at hl ⊢
  exact sfX3_add C B.returns k0 ⟨hP, va_S.rf⟩ hl h
def fX7_isTooLong  (S : St) : Option (Int32 × St) :=
  (if (S 33 3) = 2 then (if ((S 33 2) - (S 33 4)) ≤ 4 then rz 0 S else rz 1 S) else rz 0 S)
set_option maxHeartbeats 4000000 in
set_option maxRecDepth 20000 in
theorem sfX7_isTooLong (C : Cx p s m args meth c cX7_isTooLong 1 RX7 G) (hr : meth.sig.returnType = some .boolean)  {S : St} {res : (Int32 × St)} {H : Heap} {locs : List Loc} {ls : Array Slot}  (hd : Dy G S s H locs) (hl : lv_has ls 1 [(0, .ref (gR G 33))]) (h : fX7_isTooLong  S = some res) : W p l e (rmL 3 0 0) s m args below meth c H locs 0 0 (MQ below (QI G res.1 res.2) args s 0 0 (Ab G)) (F0 m 0 ls []) := by
  unfold fX7_isTooLong at h
  have hx := C.1.1
  have hb := C.1.2.1
  refine lv_aload_n hx hb dX7_isTooLong_0 rfl (lv_at hl 0 rfl) ?_
  refine gX7_32 C hd (rfl : kd 33 = 7) dX7_isTooLong_1 ?_
  refine lv_iconst (v := 2) hx hb dX7_isTooLong_4 (by decide) ?_
  refine lv_icmp_ne (tgt := 25) hx hb dX7_isTooLong_5 (by decide) (fun c1 => ?_) (fun c1 => ?_)
  · rw [if_neg c1] at h
    refine lv_iconst (v := 0) hx hb dX7_isTooLong_25 (by decide) ?_
    exact R_zret C hr hd h dX7_isTooLong_26
  · rw [if_pos c1] at h
    refine lv_aload_n hx hb dX7_isTooLong_8 rfl (lv_at hl 0 rfl) ?_
    refine gX7_23 C hd (rfl : kd 33 = 7) dX7_isTooLong_9 ?_
    refine lv_aload_n hx hb dX7_isTooLong_12 rfl (lv_at hl 0 rfl) ?_
    refine gX7_29 C hd (rfl : kd 33 = 7) dX7_isTooLong_13 ?_
    refine lv_isub hx hb dX7_isTooLong_16 ?_
    refine lv_iconst (v := 4) hx hb dX7_isTooLong_17 (by decide) ?_
    refine lv_icmp_le (tgt := 25) hx hb dX7_isTooLong_18 (by decide) (fun c2 => ?_) (fun c2 => ?_)
    · rw [if_pos c2] at h
      refine lv_iconst (v := 0) hx hb dX7_isTooLong_25 (by decide) ?_
      exact R_zret C hr hd h dX7_isTooLong_26
    · rw [if_neg c2] at h
      refine lv_iconst (v := 1) hx hb dX7_isTooLong_21 (by decide) ?_
      refine lv_goto (tgt := 26) hx hb dX7_isTooLong_22 (by decide) ?_
      exact R_zret C hr hd h dX7_isTooLong_26
set_option maxRecDepth 20000 in
theorem ccX7_isTooLong (l : Launch) (G : Gt)  {S : St} {res : (Int32 × St)}  (h : fX7_isTooLong  S = some res) : Met l yX7_isTooLong (wm yX7_isTooLong cX7_isTooLong 1 (some .boolean)) (rmL 3 0 0) (PcW G S [.ref (gR G 33)]) (QI G res.1 res.2) 0 0 (Ab G) := by
  refine Met.ofW (cc := cX7_isTooLong) (maxL := 1) (ret := (some .boolean)) (by decide) rfl ?_
  intro p e s m args below meth c s₁ B hml hv
  obtain ⟨rfl, hK, hP⟩ := hv
  have C : Cx p s m _ meth c cX7_isTooLong 1 RX7 G := ⟨⟨B.exec, B.bytes, hml, findClass_of_methodNamed B.named, fun w hw => atoms_spec (ws := wm yX7_isTooLong cX7_isTooLong 1 (some .boolean)) B.pre w (List.mem_cons_of_mem _ hw)⟩, B.notSynchronized, hK⟩
  have hl := lv_entry ([.ref (gR G 33)]) (n := 1) (Nat.le_of_ble_eq_true rfl)
  rw [lg_entry_eq]
  generalize (lg_sl ([.ref (gR G 33)]) ++ List.replicate (1 - (lg_sl ([.ref (gR G 33)])).length) Slot.unset).toArray = ls at hl ⊢
  exact sfX7_isTooLong C B.returns  ⟨hP, va_S.rf⟩ hl h
def fX3_begin (a0 : Nat) (a1 : Int32) (S : St) : Option St :=
  pz S a0 0 0 fun S => pf S a0 2 a1 fun S => pf S a0 3 a1 fun S => some S
set_option maxHeartbeats 4000000 in
set_option maxRecDepth 20000 in
theorem sfX3_begin (C : Cx p s m args meth c cX3_begin 2 RX3 G) (hr : meth.sig.returnType = none) {a0 : Nat} {a1 : Int32} {S : St} {res : St} {H : Heap} {locs : List Loc} {ls : Array Slot} (k0 : kd a0 = 3) (hd : Dy G S s H locs) (hl : lv_has ls 2 [(0, .ref (gR G a0)), (1, .int a1)]) (h : fX3_begin a0 a1 S = some res) : W p l e (rmL 3 0 0) s m args below meth c H locs 0 0 (MQ below (QV G res) args s 0 0 (Ab G)) (F0 m 0 ls []) := by
  unfold fX3_begin at h
  have hx := C.1.1
  have hb := C.1.2.1
  refine lv_aload_n hx hb dX3_begin_0 rfl (lv_at hl 0 rfl) ?_
  refine lv_iconst (v := 0) hx hb dX3_begin_1 (by decide) ?_
  refine pX3_16 C hd k0 h dX3_begin_2 (fun S H locs hd h => ?_)
  refine lv_aload_n hx hb dX3_begin_5 rfl (lv_at hl 0 rfl) ?_
  refine lv_iload_n hx hb dX3_begin_6 rfl (lv_at hl 1 rfl) ?_
  refine pX3_20 C hd k0 h dX3_begin_7 (fun S H locs hd h => ?_)
  refine lv_aload_n hx hb dX3_begin_10 rfl (lv_at hl 0 rfl) ?_
  refine lv_iload_n hx hb dX3_begin_11 rfl (lv_at hl 1 rfl) ?_
  refine pX3_24 C hd k0 h dX3_begin_12 (fun S H locs hd h => ?_)
  exact R_vret C hr hd h dX3_begin_15
set_option maxRecDepth 20000 in
theorem ccX3_begin (l : Launch) (G : Gt) {a0 : Nat} {a1 : Int32} {S : St} {res : St} (k0 : kd a0 = 3) (h : fX3_begin a0 a1 S = some res) : Met l yX3_begin (wm yX3_begin cX3_begin 2 (none)) (rmL 3 0 0) (PcW G S [.ref (gR G a0), .int a1]) (QV G res) 0 0 (Ab G) := by
  refine Met.ofW (cc := cX3_begin) (maxL := 2) (ret := none) (by decide) rfl ?_
  intro p e s m args below meth c s₁ B hml hv
  obtain ⟨rfl, hK, hP⟩ := hv
  have C : Cx p s m _ meth c cX3_begin 2 RX3 G := ⟨⟨B.exec, B.bytes, hml, findClass_of_methodNamed B.named, fun w hw => atoms_spec (ws := wm yX3_begin cX3_begin 2 (none)) B.pre w (List.mem_cons_of_mem _ hw)⟩, B.notSynchronized, hK⟩
  have hl := lv_entry ([.ref (gR G a0), .int a1]) (n := 2) (Nat.le_of_ble_eq_true rfl)
  rw [lg_entry_eq]
  generalize (lg_sl ([.ref (gR G a0), .int a1]) ++ List.replicate (2 - (lg_sl ([.ref (gR G a0), .int a1])).length) Slot.unset).toArray = ls at hl ⊢
  exact sfX3_begin C B.returns k0 ⟨hP, va_S.rf⟩ hl h
def BX7_kindOf_28 (l0 : Int32) (S : St) : Option (Int32 × St) :=
  (if l0 = 40 then ri l0 S else (if l0 = 41 then ri l0 S else (if l0 = 42 then ri l0 S else (if l0 = 43 then ri l0 S else (if l0 = 45 then ri l0 S else (if l0 = 47 then ri l0 S else (if l0 = 59 then ri l0 S else (if l0 = 60 then ri l0 S else (if l0 = 61 then ri l0 S else ri 3 S)))))))))
set_option maxHeartbeats 4000000 in
set_option maxRecDepth 20000 in
theorem sBX7_kindOf_28 (C : Cx p s m args meth c cX7_kindOf 1 RX7 G) (hr : meth.sig.returnType = some .int) {l0 : Int32} {S : St} {res : (Int32 × St)} {H : Heap} {locs : List Loc} {ls : Array Slot}  (hd : Dy G S s H locs) (hl : lv_has ls 1 [(0, .int l0)]) (h : BX7_kindOf_28 l0 S = some res) : W p l e (rmL 3 0 0) s m args below meth c H locs 0 0 (MQ below (QI G res.1 res.2) args s 0 0 (Ab G)) (F0 m 28 ls []) := by
  unfold BX7_kindOf_28 at h
  have hx := C.1.1
  have hb := C.1.2.1
  refine lv_iload_n hx hb dX7_kindOf_28 rfl (lv_at hl 0 rfl) ?_
  by_cases c1 : l0 = 40
  · rw [if_pos c1] at h
    refine lv_tableIn (tgt := 132) hx hb dX7_kindOf_29 (by rw [c1]; decide) (by rw [c1]; decide) (by rw [c1] <;> rfl) (by decide) ?_
    refine lv_iload_n hx hb dX7_kindOf_132 rfl (lv_at hl 0 rfl) ?_
    exact R_iret C hr hd h dX7_kindOf_133
  rw [if_neg c1] at h
  by_cases c2 : l0 = 41
  · rw [if_pos c2] at h
    refine lv_tableIn (tgt := 132) hx hb dX7_kindOf_29 (by rw [c2]; decide) (by rw [c2]; decide) (by rw [c2] <;> rfl) (by decide) ?_
    refine lv_iload_n hx hb dX7_kindOf_132 rfl (lv_at hl 0 rfl) ?_
    exact R_iret C hr hd h dX7_kindOf_133
  rw [if_neg c2] at h
  by_cases c3 : l0 = 42
  · rw [if_pos c3] at h
    refine lv_tableIn (tgt := 132) hx hb dX7_kindOf_29 (by rw [c3]; decide) (by rw [c3]; decide) (by rw [c3] <;> rfl) (by decide) ?_
    refine lv_iload_n hx hb dX7_kindOf_132 rfl (lv_at hl 0 rfl) ?_
    exact R_iret C hr hd h dX7_kindOf_133
  rw [if_neg c3] at h
  by_cases c4 : l0 = 43
  · rw [if_pos c4] at h
    refine lv_tableIn (tgt := 132) hx hb dX7_kindOf_29 (by rw [c4]; decide) (by rw [c4]; decide) (by rw [c4] <;> rfl) (by decide) ?_
    refine lv_iload_n hx hb dX7_kindOf_132 rfl (lv_at hl 0 rfl) ?_
    exact R_iret C hr hd h dX7_kindOf_133
  rw [if_neg c4] at h
  by_cases c5 : l0 = 45
  · rw [if_pos c5] at h
    refine lv_tableIn (tgt := 132) hx hb dX7_kindOf_29 (by rw [c5]; decide) (by rw [c5]; decide) (by rw [c5] <;> rfl) (by decide) ?_
    refine lv_iload_n hx hb dX7_kindOf_132 rfl (lv_at hl 0 rfl) ?_
    exact R_iret C hr hd h dX7_kindOf_133
  rw [if_neg c5] at h
  by_cases c6 : l0 = 47
  · rw [if_pos c6] at h
    refine lv_tableIn (tgt := 132) hx hb dX7_kindOf_29 (by rw [c6]; decide) (by rw [c6]; decide) (by rw [c6] <;> rfl) (by decide) ?_
    refine lv_iload_n hx hb dX7_kindOf_132 rfl (lv_at hl 0 rfl) ?_
    exact R_iret C hr hd h dX7_kindOf_133
  rw [if_neg c6] at h
  by_cases c7 : l0 = 59
  · rw [if_pos c7] at h
    refine lv_tableIn (tgt := 132) hx hb dX7_kindOf_29 (by rw [c7]; decide) (by rw [c7]; decide) (by rw [c7] <;> rfl) (by decide) ?_
    refine lv_iload_n hx hb dX7_kindOf_132 rfl (lv_at hl 0 rfl) ?_
    exact R_iret C hr hd h dX7_kindOf_133
  rw [if_neg c7] at h
  by_cases c8 : l0 = 60
  · rw [if_pos c8] at h
    refine lv_tableIn (tgt := 132) hx hb dX7_kindOf_29 (by rw [c8]; decide) (by rw [c8]; decide) (by rw [c8] <;> rfl) (by decide) ?_
    refine lv_iload_n hx hb dX7_kindOf_132 rfl (lv_at hl 0 rfl) ?_
    exact R_iret C hr hd h dX7_kindOf_133
  rw [if_neg c8] at h
  by_cases c9 : l0 = 61
  · rw [if_pos c9] at h
    refine lv_tableIn (tgt := 132) hx hb dX7_kindOf_29 (by rw [c9]; decide) (by rw [c9]; decide) (by rw [c9] <;> rfl) (by decide) ?_
    refine lv_iload_n hx hb dX7_kindOf_132 rfl (lv_at hl 0 rfl) ?_
    exact R_iret C hr hd h dX7_kindOf_133
  rw [if_neg c9] at h
  refine R_tab (tgt := 134) C dX7_kindOf_29 (by decide) [40, 41, 42, 43, 45, 47, 59, 60, 61] (by decide) ?_ ?_
  · intro z hz; simp only [List.mem_cons, List.not_mem_nil, or_false] at hz; rcases hz with rfl | rfl | rfl | rfl | rfl | rfl | rfl | rfl | rfl <;> assumption
  refine lv_iconst (v := 3) hx hb dX7_kindOf_134 (by decide) ?_
  exact R_iret C hr hd h dX7_kindOf_135
def BX7_kindOf_14 (l0 : Int32) (S : St) : Option (Int32 × St) :=
  (if l0 < 48 then (BX7_kindOf_28 l0 S) else (if 57 < l0 then (BX7_kindOf_28 l0 S) else ri 2 S))
set_option maxHeartbeats 4000000 in
set_option maxRecDepth 20000 in
theorem sBX7_kindOf_14 (C : Cx p s m args meth c cX7_kindOf 1 RX7 G) (hr : meth.sig.returnType = some .int) {l0 : Int32} {S : St} {res : (Int32 × St)} {H : Heap} {locs : List Loc} {ls : Array Slot}  (hd : Dy G S s H locs) (hl : lv_has ls 1 [(0, .int l0)]) (h : BX7_kindOf_14 l0 S = some res) : W p l e (rmL 3 0 0) s m args below meth c H locs 0 0 (MQ below (QI G res.1 res.2) args s 0 0 (Ab G)) (F0 m 14 ls []) := by
  unfold BX7_kindOf_14 at h
  have hx := C.1.1
  have hb := C.1.2.1
  refine lv_iload_n hx hb dX7_kindOf_14 rfl (lv_at hl 0 rfl) ?_
  refine lv_bipush (v := 48) hx hb dX7_kindOf_15 (by decide) ?_
  refine lv_icmp_lt (tgt := 28) hx hb dX7_kindOf_17 (by decide) (fun c1 => ?_) (fun c1 => ?_)
  · rw [if_pos c1] at h
    exact sBX7_kindOf_28 C hr  hd (lv_sub hl [0] rfl) h
  · rw [if_neg c1] at h
    refine lv_iload_n hx hb dX7_kindOf_20 rfl (lv_at hl 0 rfl) ?_
    refine lv_bipush (v := 57) hx hb dX7_kindOf_21 (by decide) ?_
    refine lv_icmp_gt (tgt := 28) hx hb dX7_kindOf_23 (by decide) (fun c2 => ?_) (fun c2 => ?_)
    · rw [if_pos c2] at h
      exact sBX7_kindOf_28 C hr  hd (lv_sub hl [0] rfl) h
    · rw [if_neg c2] at h
      refine lv_iconst (v := 2) hx hb dX7_kindOf_26 (by decide) ?_
      exact R_iret C hr hd h dX7_kindOf_27
def fX7_kindOf (a0 : Int32) (S : St) : Option (Int32 × St) :=
  (if a0 < 97 then (BX7_kindOf_14 a0 S) else (if 122 < a0 then (BX7_kindOf_14 a0 S) else ri 1 S))
set_option maxHeartbeats 4000000 in
set_option maxRecDepth 20000 in
theorem sfX7_kindOf (C : Cx p s m args meth c cX7_kindOf 1 RX7 G) (hr : meth.sig.returnType = some .int) {a0 : Int32} {S : St} {res : (Int32 × St)} {H : Heap} {locs : List Loc} {ls : Array Slot}  (hd : Dy G S s H locs) (hl : lv_has ls 1 [(0, .int a0)]) (h : fX7_kindOf a0 S = some res) : W p l e (rmL 3 0 0) s m args below meth c H locs 0 0 (MQ below (QI G res.1 res.2) args s 0 0 (Ab G)) (F0 m 0 ls []) := by
  unfold fX7_kindOf at h
  have hx := C.1.1
  have hb := C.1.2.1
  refine lv_iload_n hx hb dX7_kindOf_0 rfl (lv_at hl 0 rfl) ?_
  refine lv_bipush (v := 97) hx hb dX7_kindOf_1 (by decide) ?_
  refine lv_icmp_lt (tgt := 14) hx hb dX7_kindOf_3 (by decide) (fun c1 => ?_) (fun c1 => ?_)
  · rw [if_pos c1] at h
    exact sBX7_kindOf_14 C hr  hd (lv_sub hl [0] rfl) h
  · rw [if_neg c1] at h
    refine lv_iload_n hx hb dX7_kindOf_6 rfl (lv_at hl 0 rfl) ?_
    refine lv_bipush (v := 122) hx hb dX7_kindOf_7 (by decide) ?_
    refine lv_icmp_gt (tgt := 14) hx hb dX7_kindOf_9 (by decide) (fun c2 => ?_) (fun c2 => ?_)
    · rw [if_pos c2] at h
      exact sBX7_kindOf_14 C hr  hd (lv_sub hl [0] rfl) h
    · rw [if_neg c2] at h
      refine lv_iconst (v := 1) hx hb dX7_kindOf_12 (by decide) ?_
      exact R_iret C hr hd h dX7_kindOf_13
set_option maxRecDepth 20000 in
theorem ccX7_kindOf (l : Launch) (G : Gt) {a0 : Int32} {S : St} {res : (Int32 × St)}  (h : fX7_kindOf a0 S = some res) : Met l yX7_kindOf (wm yX7_kindOf cX7_kindOf 1 (some .int)) (rmL 3 0 0) (PcW G S [.int a0]) (QI G res.1 res.2) 0 0 (Ab G) := by
  refine Met.ofW (cc := cX7_kindOf) (maxL := 1) (ret := (some .int)) (by decide) rfl ?_
  intro p e s m args below meth c s₁ B hml hv
  obtain ⟨rfl, hK, hP⟩ := hv
  have C : Cx p s m _ meth c cX7_kindOf 1 RX7 G := ⟨⟨B.exec, B.bytes, hml, findClass_of_methodNamed B.named, fun w hw => atoms_spec (ws := wm yX7_kindOf cX7_kindOf 1 (some .int)) B.pre w (List.mem_cons_of_mem _ hw)⟩, B.notSynchronized, hK⟩
  have hl := lv_entry ([.int a0]) (n := 1) (Nat.le_of_ble_eq_true rfl)
  rw [lg_entry_eq]
  generalize (lg_sl ([.int a0]) ++ List.replicate (1 - (lg_sl ([.int a0])).length) Slot.unset).toArray = ls at hl ⊢
  exact sfX7_kindOf C B.returns  ⟨hP, va_S.rf⟩ hl h
def BX7_advance_169 (r98 : St → Option St)  (S : St) : Option St :=
  (if (S 33 1) ≤ (S 33 2) then some S else rd S 1 (S 33 2) fun x3 => bd (fX7_kindOf x3 S) fun x4 S => (if x4 = (S 33 3) then (r98  S) else some S))
set_option maxHeartbeats 4000000 in
set_option maxRecDepth 20000 in
theorem sBX7_advance_169 (C : Cx p s m args meth c cX7_advance 1 RX7 G) (hr : meth.sig.returnType = none) {r98 : St → Option St} (hr98 : ∀  (S : St) (res : St) (H : Heap) (locs : List Loc) (ls : Array Slot), Dy G S s H locs → lv_has ls 1 [(0, .ref (gR G 33))] → r98  S = some res → W p l e (rmL 4 0 0) s m args below meth c H locs 0 0 (MQ below (QV G res) args s 0 0 (Ab G)) (F0 m 98 ls []))  {S : St} {res : St} {H : Heap} {locs : List Loc} {ls : Array Slot}  (hd : Dy G S s H locs) (hl : lv_has ls 1 [(0, .ref (gR G 33))]) (h : BX7_advance_169 r98  S = some res) : W p l e (rmL 4 0 0) s m args below meth c H locs 0 0 (MQ below (QV G res) args s 0 0 (Ab G)) (F0 m 169 ls []) := by
  unfold BX7_advance_169 at h
  have hx := C.1.1
  have hb := C.1.2.1
  refine lv_aload_n hx hb dX7_advance_169 rfl (lv_at hl 0 rfl) ?_
  refine gX7_23 C hd (rfl : kd 33 = 7) dX7_advance_170 ?_
  refine lv_aload_n hx hb dX7_advance_173 rfl (lv_at hl 0 rfl) ?_
  refine gX7_19 C hd (rfl : kd 33 = 7) dX7_advance_174 ?_
  refine lv_icmp_ge (tgt := 199) hx hb dX7_advance_177 (by decide) (fun c1 => ?_) (fun c1 => ?_)
  · rw [if_pos c1] at h
    exact R_vret C hr hd h dX7_advance_199
  · rw [if_neg c1] at h
    refine lv_aload_n hx hb dX7_advance_180 rfl (lv_at hl 0 rfl) ?_
    refine gX7_7 C hd (rfl : kd 33 = 7) (q := 1) rfl dX7_advance_181 (fun y2 => ?_)
    refine lv_aload_n hx hb dX7_advance_184 rfl (lv_at hl 0 rfl) ?_
    refine gX7_23 C hd (rfl : kd 33 = 7) dX7_advance_185 ?_
    refine R_bald C hd y2 h dX7_advance_188 (fun x3 h => ?_)
    obtain ⟨x4, S1, hc, h⟩ := bd_some h
    refine R_cSi C hd (ccX7_kindOf l G  hc) kX7_35  hl.1 ⟨by decide, by decide⟩ rfl rfl (Nat.le_of_ble_eq_true rfl) dX7_advance_189 ⟨Nat.zero_le _, Nat.zero_le _⟩ (fun H locs hd => ?_)
    generalize S1 = S at h hd
    refine lv_aload_n hx hb dX7_advance_192 rfl (lv_at hl 0 rfl) ?_
    refine gX7_32 C hd (rfl : kd 33 = 7) dX7_advance_193 ?_
    refine lv_icmp_eq (tgt := 98) hx hb dX7_advance_196 (by decide) (fun c5 => ?_) (fun c5 => ?_)
    · rw [if_pos c5] at h
      exact hr98  _ _ _ _ _  hd (lv_sub hl [0] rfl) h
    · rw [if_neg c5] at h
      exact R_vret C hr hd h dX7_advance_199
def BX7_advance_143 (r98 : St → Option St)  (S : St) : Option St :=
  pf S 33 2 ((S 33 2) + 1) fun S => (if (S 33 3) = 1 then (BX7_advance_169 r98  S) else (if (S 33 3) = 2 then (BX7_advance_169 r98  S) else some S))
set_option maxHeartbeats 4000000 in
set_option maxRecDepth 20000 in
theorem sBX7_advance_143 (C : Cx p s m args meth c cX7_advance 1 RX7 G) (hr : meth.sig.returnType = none) {r98 : St → Option St} (hr98 : ∀  (S : St) (res : St) (H : Heap) (locs : List Loc) (ls : Array Slot), Dy G S s H locs → lv_has ls 1 [(0, .ref (gR G 33))] → r98  S = some res → W p l e (rmL 4 0 0) s m args below meth c H locs 0 0 (MQ below (QV G res) args s 0 0 (Ab G)) (F0 m 98 ls []))  {S : St} {res : St} {H : Heap} {locs : List Loc} {ls : Array Slot}  (hd : Dy G S s H locs) (hl : lv_has ls 1 [(0, .ref (gR G 33))]) (h : BX7_advance_143 r98  S = some res) : W p l e (rmL 4 0 0) s m args below meth c H locs 0 0 (MQ below (QV G res) args s 0 0 (Ab G)) (F0 m 143 ls []) := by
  unfold BX7_advance_143 at h
  have hx := C.1.1
  have hb := C.1.2.1
  refine lv_aload_n hx hb dX7_advance_143 rfl (lv_at hl 0 rfl) ?_
  refine lv_dup hx hb dX7_advance_144 rfl ?_
  refine gX7_23 C hd (rfl : kd 33 = 7) dX7_advance_145 ?_
  refine lv_iconst (v := 1) hx hb dX7_advance_148 (by decide) ?_
  refine lv_iadd hx hb dX7_advance_149 ?_
  refine pX7_23 C hd (rfl : kd 33 = 7) h dX7_advance_150 (fun S H locs hd h => ?_)
  refine lv_aload_n hx hb dX7_advance_153 rfl (lv_at hl 0 rfl) ?_
  refine gX7_32 C hd (rfl : kd 33 = 7) dX7_advance_154 ?_
  refine lv_iconst (v := 1) hx hb dX7_advance_157 (by decide) ?_
  refine lv_icmp_eq (tgt := 169) hx hb dX7_advance_158 (by decide) (fun c1 => ?_) (fun c1 => ?_)
  · rw [if_pos c1] at h
    exact sBX7_advance_169 C hr hr98  hd (lv_sub hl [0] rfl) h
  · rw [if_neg c1] at h
    refine lv_aload_n hx hb dX7_advance_161 rfl (lv_at hl 0 rfl) ?_
    refine gX7_32 C hd (rfl : kd 33 = 7) dX7_advance_162 ?_
    refine lv_iconst (v := 2) hx hb dX7_advance_165 (by decide) ?_
    refine lv_icmp_ne (tgt := 199) hx hb dX7_advance_166 (by decide) (fun c2 => ?_) (fun c2 => ?_)
    · rw [if_neg c2] at h
      exact R_vret C hr hd h dX7_advance_199
    · rw [if_pos c2] at h
      exact sBX7_advance_169 C hr hr98  hd (lv_sub hl [0] rfl) h
def KX7_advance_98 (r98 : St → Option St)  (S : St) : Option St :=
  (if (S 33 3) = 2 then (if 4 ≤ ((S 33 2) - (S 33 4)) then (BX7_advance_143 r98  S) else rd S 1 (S 33 2) fun x4 => pf S 33 5 ((((S 33 5) * 10) + x4) - 48) fun S => (BX7_advance_143 r98  S)) else (BX7_advance_143 r98  S))
set_option maxHeartbeats 4000000 in
set_option maxRecDepth 20000 in
theorem sKX7_advance_98 (C : Cx p s m args meth c cX7_advance 1 RX7 G) (hr : meth.sig.returnType = none) {r98 : St → Option St} (hr98 : ∀  (S : St) (res : St) (H : Heap) (locs : List Loc) (ls : Array Slot), Dy G S s H locs → lv_has ls 1 [(0, .ref (gR G 33))] → r98  S = some res → W p l e (rmL 4 0 0) s m args below meth c H locs 0 0 (MQ below (QV G res) args s 0 0 (Ab G)) (F0 m 98 ls []))  {S : St} {res : St} {H : Heap} {locs : List Loc} {ls : Array Slot}  (hd : Dy G S s H locs) (hl : lv_has ls 1 [(0, .ref (gR G 33))]) (h : KX7_advance_98 r98  S = some res) : W p l e (rmL 4 0 0) s m args below meth c H locs 0 0 (MQ below (QV G res) args s 0 0 (Ab G)) (F0 m 98 ls []) := by
  unfold KX7_advance_98 at h
  have hx := C.1.1
  have hb := C.1.2.1
  refine lv_aload_n hx hb dX7_advance_98 rfl (lv_at hl 0 rfl) ?_
  refine gX7_32 C hd (rfl : kd 33 = 7) dX7_advance_99 ?_
  refine lv_iconst (v := 2) hx hb dX7_advance_102 (by decide) ?_
  refine lv_icmp_ne (tgt := 143) hx hb dX7_advance_103 (by decide) (fun c1 => ?_) (fun c1 => ?_)
  · rw [if_neg c1] at h
    exact sBX7_advance_143 C hr hr98  hd (lv_sub hl [0] rfl) h
  · rw [if_pos c1] at h
    refine lv_aload_n hx hb dX7_advance_106 rfl (lv_at hl 0 rfl) ?_
    refine gX7_23 C hd (rfl : kd 33 = 7) dX7_advance_107 ?_
    refine lv_aload_n hx hb dX7_advance_110 rfl (lv_at hl 0 rfl) ?_
    refine gX7_29 C hd (rfl : kd 33 = 7) dX7_advance_111 ?_
    refine lv_isub hx hb dX7_advance_114 ?_
    refine lv_iconst (v := 4) hx hb dX7_advance_115 (by decide) ?_
    refine lv_icmp_ge (tgt := 143) hx hb dX7_advance_116 (by decide) (fun c2 => ?_) (fun c2 => ?_)
    · rw [if_pos c2] at h
      exact sBX7_advance_143 C hr hr98  hd (lv_sub hl [0] rfl) h
    · rw [if_neg c2] at h
      refine lv_aload_n hx hb dX7_advance_119 rfl (lv_at hl 0 rfl) ?_
      refine lv_aload_n hx hb dX7_advance_120 rfl (lv_at hl 0 rfl) ?_
      refine gX7_39 C hd (rfl : kd 33 = 7) dX7_advance_121 ?_
      refine lv_bipush (v := 10) hx hb dX7_advance_124 (by decide) ?_
      refine lv_imul hx hb dX7_advance_126 ?_
      refine lv_aload_n hx hb dX7_advance_127 rfl (lv_at hl 0 rfl) ?_
      refine gX7_7 C hd (rfl : kd 33 = 7) (q := 1) rfl dX7_advance_128 (fun y3 => ?_)
      refine lv_aload_n hx hb dX7_advance_131 rfl (lv_at hl 0 rfl) ?_
      refine gX7_23 C hd (rfl : kd 33 = 7) dX7_advance_132 ?_
      refine R_bald C hd y3 h dX7_advance_135 (fun x4 h => ?_)
      refine lv_iadd hx hb dX7_advance_136 ?_
      refine lv_bipush (v := 48) hx hb dX7_advance_137 (by decide) ?_
      refine lv_isub hx hb dX7_advance_139 ?_
      refine pX7_39 C hd (rfl : kd 33 = 7) h dX7_advance_140 (fun S H locs hd h => ?_)
      exact sBX7_advance_143 C hr hr98  hd (lv_sub hl [0] rfl) h
def LX7_advance_98 : Nat → St → Option St
  | 0 => fun _ => none
  | n + 1 => fun  S => KX7_advance_98 (LX7_advance_98 n)  S
theorem sLX7_advance_98 (C : Cx p s m args meth c cX7_advance 1 RX7 G) (hr : meth.sig.returnType = none) : ∀ (n : Nat)  (S : St) (res : St) (H : Heap) (locs : List Loc) (ls : Array Slot), Dy G S s H locs → lv_has ls 1 [(0, .ref (gR G 33))] → LX7_advance_98 n  S = some res → W p l e (rmL 4 0 0) s m args below meth c H locs 0 0 (MQ below (QV G res) args s 0 0 (Ab G)) (F0 m 98 ls []) := by
  intro n
  induction n with
  | zero => intro  S res H locs ls  hd hl h; cases h
  | succ n ih =>
    intro  S res H locs ls  hd hl h
    exact sKX7_advance_98 C hr ih  hd hl h
def BX7_advance_52  (S : St) : Option St :=
  pf S 33 4 (S 33 2) fun S => (if (S 33 2) < (S 33 1) then rd S 1 (S 33 2) fun x3 => bd (fX7_kindOf x3 S) fun x4 S => pf S 33 3 x4 fun S => pf S 33 5 0 fun S => (LX7_advance_98 FU  S) else pf S 33 3 0 fun S => some S)
set_option maxHeartbeats 4000000 in
set_option maxRecDepth 20000 in
theorem sBX7_advance_52 (C : Cx p s m args meth c cX7_advance 1 RX7 G) (hr : meth.sig.returnType = none)  {S : St} {res : St} {H : Heap} {locs : List Loc} {ls : Array Slot}  (hd : Dy G S s H locs) (hl : lv_has ls 1 [(0, .ref (gR G 33))]) (h : BX7_advance_52  S = some res) : W p l e (rmL 4 0 0) s m args below meth c H locs 0 0 (MQ below (QV G res) args s 0 0 (Ab G)) (F0 m 52 ls []) := by
  unfold BX7_advance_52 at h
  have hx := C.1.1
  have hb := C.1.2.1
  refine lv_aload_n hx hb dX7_advance_52 rfl (lv_at hl 0 rfl) ?_
  refine lv_aload_n hx hb dX7_advance_53 rfl (lv_at hl 0 rfl) ?_
  refine gX7_23 C hd (rfl : kd 33 = 7) dX7_advance_54 ?_
  refine pX7_29 C hd (rfl : kd 33 = 7) h dX7_advance_57 (fun S H locs hd h => ?_)
  refine lv_aload_n hx hb dX7_advance_60 rfl (lv_at hl 0 rfl) ?_
  refine gX7_23 C hd (rfl : kd 33 = 7) dX7_advance_61 ?_
  refine lv_aload_n hx hb dX7_advance_64 rfl (lv_at hl 0 rfl) ?_
  refine gX7_19 C hd (rfl : kd 33 = 7) dX7_advance_65 ?_
  refine lv_icmp_lt (tgt := 77) hx hb dX7_advance_68 (by decide) (fun c1 => ?_) (fun c1 => ?_)
  · rw [if_pos c1] at h
    refine lv_aload_n hx hb dX7_advance_77 rfl (lv_at hl 0 rfl) ?_
    refine lv_aload_n hx hb dX7_advance_78 rfl (lv_at hl 0 rfl) ?_
    refine gX7_7 C hd (rfl : kd 33 = 7) (q := 1) rfl dX7_advance_79 (fun y2 => ?_)
    refine lv_aload_n hx hb dX7_advance_82 rfl (lv_at hl 0 rfl) ?_
    refine gX7_23 C hd (rfl : kd 33 = 7) dX7_advance_83 ?_
    refine R_bald C hd y2 h dX7_advance_86 (fun x3 h => ?_)
    obtain ⟨x4, S1, hc, h⟩ := bd_some h
    refine R_cSi C hd (ccX7_kindOf l G  hc) kX7_35  hl.1 ⟨by decide, by decide⟩ rfl rfl (Nat.le_of_ble_eq_true rfl) dX7_advance_87 ⟨Nat.zero_le _, Nat.zero_le _⟩ (fun H locs hd => ?_)
    generalize S1 = S at h hd
    refine pX7_32 C hd (rfl : kd 33 = 7) h dX7_advance_90 (fun S H locs hd h => ?_)
    refine lv_aload_n hx hb dX7_advance_93 rfl (lv_at hl 0 rfl) ?_
    refine lv_iconst (v := 0) hx hb dX7_advance_94 (by decide) ?_
    refine pX7_39 C hd (rfl : kd 33 = 7) h dX7_advance_95 (fun S H locs hd h => ?_)
    exact sLX7_advance_98 C hr _  _ _ _ _ _  hd (lv_sub hl [0] rfl) h
  · rw [if_neg c1] at h
    refine lv_aload_n hx hb dX7_advance_71 rfl (lv_at hl 0 rfl) ?_
    refine lv_iconst (v := 0) hx hb dX7_advance_72 (by decide) ?_
    refine pX7_32 C hd (rfl : kd 33 = 7) h dX7_advance_73 (fun S H locs hd h => ?_)
    exact R_vret C hr hd h dX7_advance_76
def BX7_advance_39 (r0 : St → Option St)  (S : St) : Option St :=
  pf S 33 2 ((S 33 2) + 1) fun S => (r0  S)
set_option maxHeartbeats 4000000 in
set_option maxRecDepth 20000 in
theorem sBX7_advance_39 (C : Cx p s m args meth c cX7_advance 1 RX7 G) (hr : meth.sig.returnType = none) {r0 : St → Option St} (hr0 : ∀  (S : St) (res : St) (H : Heap) (locs : List Loc) (ls : Array Slot), Dy G S s H locs → lv_has ls 1 [(0, .ref (gR G 33))] → r0  S = some res → W p l e (rmL 4 0 0) s m args below meth c H locs 0 0 (MQ below (QV G res) args s 0 0 (Ab G)) (F0 m 0 ls []))  {S : St} {res : St} {H : Heap} {locs : List Loc} {ls : Array Slot}  (hd : Dy G S s H locs) (hl : lv_has ls 1 [(0, .ref (gR G 33))]) (h : BX7_advance_39 r0  S = some res) : W p l e (rmL 4 0 0) s m args below meth c H locs 0 0 (MQ below (QV G res) args s 0 0 (Ab G)) (F0 m 39 ls []) := by
  unfold BX7_advance_39 at h
  have hx := C.1.1
  have hb := C.1.2.1
  refine lv_aload_n hx hb dX7_advance_39 rfl (lv_at hl 0 rfl) ?_
  refine lv_dup hx hb dX7_advance_40 rfl ?_
  refine gX7_23 C hd (rfl : kd 33 = 7) dX7_advance_41 ?_
  refine lv_iconst (v := 1) hx hb dX7_advance_44 (by decide) ?_
  refine lv_iadd hx hb dX7_advance_45 ?_
  refine pX7_23 C hd (rfl : kd 33 = 7) h dX7_advance_46 (fun S H locs hd h => ?_)
  refine lv_goto (tgt := 0) hx hb dX7_advance_49 (by decide) ?_
  exact hr0  _ _ _ _ _  hd (lv_sub hl [0] rfl) h
def KX7_advance_0 (r0 : St → Option St)  (S : St) : Option St :=
  (if (S 33 1) ≤ (S 33 2) then (BX7_advance_52  S) else rd S 1 (S 33 2) fun x3 => (if x3 = 32 then (BX7_advance_39 r0  S) else rd S 1 (S 33 2) fun x6 => (if x6 = 10 then (BX7_advance_39 r0  S) else (BX7_advance_52  S))))
set_option maxHeartbeats 4000000 in
set_option maxRecDepth 20000 in
theorem sKX7_advance_0 (C : Cx p s m args meth c cX7_advance 1 RX7 G) (hr : meth.sig.returnType = none) {r0 : St → Option St} (hr0 : ∀  (S : St) (res : St) (H : Heap) (locs : List Loc) (ls : Array Slot), Dy G S s H locs → lv_has ls 1 [(0, .ref (gR G 33))] → r0  S = some res → W p l e (rmL 4 0 0) s m args below meth c H locs 0 0 (MQ below (QV G res) args s 0 0 (Ab G)) (F0 m 0 ls []))  {S : St} {res : St} {H : Heap} {locs : List Loc} {ls : Array Slot}  (hd : Dy G S s H locs) (hl : lv_has ls 1 [(0, .ref (gR G 33))]) (h : KX7_advance_0 r0  S = some res) : W p l e (rmL 4 0 0) s m args below meth c H locs 0 0 (MQ below (QV G res) args s 0 0 (Ab G)) (F0 m 0 ls []) := by
  unfold KX7_advance_0 at h
  have hx := C.1.1
  have hb := C.1.2.1
  refine lv_aload_n hx hb dX7_advance_0 rfl (lv_at hl 0 rfl) ?_
  refine gX7_23 C hd (rfl : kd 33 = 7) dX7_advance_1 ?_
  refine lv_aload_n hx hb dX7_advance_4 rfl (lv_at hl 0 rfl) ?_
  refine gX7_19 C hd (rfl : kd 33 = 7) dX7_advance_5 ?_
  refine lv_icmp_ge (tgt := 52) hx hb dX7_advance_8 (by decide) (fun c1 => ?_) (fun c1 => ?_)
  · rw [if_pos c1] at h
    exact sBX7_advance_52 C hr  hd (lv_sub hl [0] rfl) h
  · rw [if_neg c1] at h
    refine lv_aload_n hx hb dX7_advance_11 rfl (lv_at hl 0 rfl) ?_
    refine gX7_7 C hd (rfl : kd 33 = 7) (q := 1) rfl dX7_advance_12 (fun y2 => ?_)
    refine lv_aload_n hx hb dX7_advance_15 rfl (lv_at hl 0 rfl) ?_
    refine gX7_23 C hd (rfl : kd 33 = 7) dX7_advance_16 ?_
    refine R_bald C hd y2 h dX7_advance_19 (fun x3 h => ?_)
    refine lv_bipush (v := 32) hx hb dX7_advance_20 (by decide) ?_
    refine lv_icmp_eq (tgt := 39) hx hb dX7_advance_22 (by decide) (fun c4 => ?_) (fun c4 => ?_)
    · rw [if_pos c4] at h
      exact sBX7_advance_39 C hr hr0  hd (lv_sub hl [0] rfl) h
    · rw [if_neg c4] at h
      refine lv_aload_n hx hb dX7_advance_25 rfl (lv_at hl 0 rfl) ?_
      refine gX7_7 C hd (rfl : kd 33 = 7) (q := 1) rfl dX7_advance_26 (fun y5 => ?_)
      refine lv_aload_n hx hb dX7_advance_29 rfl (lv_at hl 0 rfl) ?_
      refine gX7_23 C hd (rfl : kd 33 = 7) dX7_advance_30 ?_
      refine R_bald C hd y5 h dX7_advance_33 (fun x6 h => ?_)
      refine lv_bipush (v := 10) hx hb dX7_advance_34 (by decide) ?_
      refine lv_icmp_ne (tgt := 52) hx hb dX7_advance_36 (by decide) (fun c7 => ?_) (fun c7 => ?_)
      · rw [if_neg c7] at h
        exact sBX7_advance_52 C hr  hd (lv_sub hl [0] rfl) h
      · rw [if_pos c7] at h
        exact sBX7_advance_39 C hr hr0  hd (lv_sub hl [0] rfl) h
def LX7_advance_0 : Nat → St → Option St
  | 0 => fun _ => none
  | n + 1 => fun  S => KX7_advance_0 (LX7_advance_0 n)  S
theorem sLX7_advance_0 (C : Cx p s m args meth c cX7_advance 1 RX7 G) (hr : meth.sig.returnType = none) : ∀ (n : Nat)  (S : St) (res : St) (H : Heap) (locs : List Loc) (ls : Array Slot), Dy G S s H locs → lv_has ls 1 [(0, .ref (gR G 33))] → LX7_advance_0 n  S = some res → W p l e (rmL 4 0 0) s m args below meth c H locs 0 0 (MQ below (QV G res) args s 0 0 (Ab G)) (F0 m 0 ls []) := by
  intro n
  induction n with
  | zero => intro  S res H locs ls  hd hl h; cases h
  | succ n ih =>
    intro  S res H locs ls  hd hl h
    exact sKX7_advance_0 C hr ih  hd hl h
def fX7_advance  (S : St) : Option St :=
  (LX7_advance_0 FU  S)
set_option maxHeartbeats 4000000 in
set_option maxRecDepth 20000 in
theorem sfX7_advance (C : Cx p s m args meth c cX7_advance 1 RX7 G) (hr : meth.sig.returnType = none)  {S : St} {res : St} {H : Heap} {locs : List Loc} {ls : Array Slot}  (hd : Dy G S s H locs) (hl : lv_has ls 1 [(0, .ref (gR G 33))]) (h : fX7_advance  S = some res) : W p l e (rmL 4 0 0) s m args below meth c H locs 0 0 (MQ below (QV G res) args s 0 0 (Ab G)) (F0 m 0 ls []) := by
  unfold fX7_advance at h
  have hx := C.1.1
  have hb := C.1.2.1
  exact sLX7_advance_0 C hr _  _ _ _ _ _  hd (lv_sub hl [0] rfl) h
set_option maxRecDepth 20000 in
theorem ccX7_advance (l : Launch) (G : Gt)  {S : St} {res : St}  (h : fX7_advance  S = some res) : Met l yX7_advance (wm yX7_advance cX7_advance 1 (none)) (rmL 4 0 0) (PcW G S [.ref (gR G 33)]) (QV G res) 0 0 (Ab G) := by
  refine Met.ofW (cc := cX7_advance) (maxL := 1) (ret := none) (by decide) rfl ?_
  intro p e s m args below meth c s₁ B hml hv
  obtain ⟨rfl, hK, hP⟩ := hv
  have C : Cx p s m _ meth c cX7_advance 1 RX7 G := ⟨⟨B.exec, B.bytes, hml, findClass_of_methodNamed B.named, fun w hw => atoms_spec (ws := wm yX7_advance cX7_advance 1 (none)) B.pre w (List.mem_cons_of_mem _ hw)⟩, B.notSynchronized, hK⟩
  have hl := lv_entry ([.ref (gR G 33)]) (n := 1) (Nat.le_of_ble_eq_true rfl)
  rw [lg_entry_eq]
  generalize (lg_sl ([.ref (gR G 33)]) ++ List.replicate (1 - (lg_sl ([.ref (gR G 33)])).length) Slot.unset).toArray = ls at hl ⊢
  exact sfX7_advance C B.returns  ⟨hP, va_S.rf⟩ hl h
def fX3_end (a0 : Nat) (S : St) : Option (Int32 × St) :=
  ri (S a0 3) S
set_option maxHeartbeats 4000000 in
set_option maxRecDepth 20000 in
theorem sfX3_end (C : Cx p s m args meth c cX3_end 1 RX3 G) (hr : meth.sig.returnType = some .int) {a0 : Nat} {S : St} {res : (Int32 × St)} {H : Heap} {locs : List Loc} {ls : Array Slot} (k0 : kd a0 = 3) (hd : Dy G S s H locs) (hl : lv_has ls 1 [(0, .ref (gR G a0))]) (h : fX3_end a0 S = some res) : W p l e (rmL 3 0 0) s m args below meth c H locs 0 0 (MQ below (QI G res.1 res.2) args s 0 0 (Ab G)) (F0 m 0 ls []) := by
  unfold fX3_end at h
  have hx := C.1.1
  have hb := C.1.2.1
  refine lv_aload_n hx hb dX3_end_0 rfl (lv_at hl 0 rfl) ?_
  refine gX3_24 C hd k0 dX3_end_1 ?_
  exact R_iret C hr hd h dX3_end_4
set_option maxRecDepth 20000 in
theorem ccX3_end (l : Launch) (G : Gt) {a0 : Nat} {S : St} {res : (Int32 × St)} (k0 : kd a0 = 3) (h : fX3_end a0 S = some res) : Met l yX3_end (wm yX3_end cX3_end 1 (some .int)) (rmL 3 0 0) (PcW G S [.ref (gR G a0)]) (QI G res.1 res.2) 0 0 (Ab G) := by
  refine Met.ofW (cc := cX3_end) (maxL := 1) (ret := (some .int)) (by decide) rfl ?_
  intro p e s m args below meth c s₁ B hml hv
  obtain ⟨rfl, hK, hP⟩ := hv
  have C : Cx p s m _ meth c cX3_end 1 RX3 G := ⟨⟨B.exec, B.bytes, hml, findClass_of_methodNamed B.named, fun w hw => atoms_spec (ws := wm yX3_end cX3_end 1 (some .int)) B.pre w (List.mem_cons_of_mem _ hw)⟩, B.notSynchronized, hK⟩
  have hl := lv_entry ([.ref (gR G a0)]) (n := 1) (Nat.le_of_ble_eq_true rfl)
  rw [lg_entry_eq]
  generalize (lg_sl ([.ref (gR G a0)]) ++ List.replicate (1 - (lg_sl ([.ref (gR G a0)])).length) Slot.unset).toArray = ls at hl ⊢
  exact sfX3_end C B.returns k0 ⟨hP, va_S.rf⟩ hl h
def fX4_startAnew (a0 : Nat) (a1 : Nat) (S : St) : Option St :=
  bv (fJ7_fill_53178 (sr a0 0) 0 S) fun S => ac S (sr a1 10) 0 (sr a0 0) 2 6 fun S => ac S (sr a1 9) 0 (sr a0 0) 62 36 fun S => ac S (sr a1 11) 0 (sr a0 0) 98 8 fun S => pf S a0 2 0 fun S => pf S a0 3 0 fun S => pf S a0 4 0 fun S => some S
set_option maxHeartbeats 4000000 in
set_option maxRecDepth 20000 in
theorem sfX4_startAnew (C : Cx p s m args meth c cX4_startAnew 2 RX4 G) (hr : meth.sig.returnType = none) {a0 : Nat} {a1 : Nat} {S : St} {res : St} {H : Heap} {locs : List Loc} {ls : Array Slot} (k0 : kd a0 = 4) (k1 : kd a1 = 8) (hd : Dy G S s H locs) (hl : lv_has ls 2 [(0, .ref (gR G a0)), (1, .ref (gR G a1))]) (h : fX4_startAnew a0 a1 S = some res) : W p l e (rmL 4 0 0) s m args below meth c H locs 0 0 (MQ below (QV G res) args s 0 0 (Ab G)) (F0 m 0 ls []) := by
  unfold fX4_startAnew at h
  have hx := C.1.1
  have hb := C.1.2.1
  refine lv_aload_n hx hb dX4_startAnew_0 rfl (lv_at hl 0 rfl) ?_
  refine gX4_9 C hd k0 (q := sr a0 0) rfl dX4_startAnew_1 (fun y1 => ?_)
  refine lv_iconst (v := 0) hx hb dX4_startAnew_4 (by decide) ?_
  obtain ⟨S1, hc, h⟩ := bv_some h
  refine R_cSv C hd (ccJ7_fill_53178 l G y1 hc) kX4_32  hl.1 ⟨by decide, by decide⟩ rfl rfl (Nat.le_of_ble_eq_true rfl) dX4_startAnew_5 ⟨Nat.zero_le _, Nat.zero_le _⟩ (fun H locs hd => ?_)
  generalize S1 = S at h hd
  refine lv_aload_n hx hb dX4_startAnew_8 rfl (lv_at hl 1 rfl) ?_
  refine gX4_38 C hd k1 (q := sr a1 10) rfl dX4_startAnew_9 (fun y2 => ?_)
  refine lv_iconst (v := 0) hx hb dX4_startAnew_12 (by decide) ?_
  refine lv_aload_n hx hb dX4_startAnew_13 rfl (lv_at hl 0 rfl) ?_
  refine gX4_9 C hd k0 (q := sr a0 0) rfl dX4_startAnew_14 (fun y3 => ?_)
  refine lv_iconst (v := 2) hx hb dX4_startAnew_17 (by decide) ?_
  refine lv_bipush (v := 6) hx hb dX4_startAnew_18 (by decide) ?_
  refine R_ac C hl.1 kaX4_43 hd y2 y3 h (Nat.le_of_ble_eq_true rfl) (Nat.le_of_ble_eq_true rfl) dX4_startAnew_20 (fun S H locs hd h => ?_)
  refine lv_aload_n hx hb dX4_startAnew_23 rfl (lv_at hl 1 rfl) ?_
  refine gX4_49 C hd k1 (q := sr a1 9) rfl dX4_startAnew_24 (fun y4 => ?_)
  refine lv_iconst (v := 0) hx hb dX4_startAnew_27 (by decide) ?_
  refine lv_aload_n hx hb dX4_startAnew_28 rfl (lv_at hl 0 rfl) ?_
  refine gX4_9 C hd k0 (q := sr a0 0) rfl dX4_startAnew_29 (fun y5 => ?_)
  refine lv_bipush (v := 62) hx hb dX4_startAnew_32 (by decide) ?_
  refine lv_bipush (v := 36) hx hb dX4_startAnew_34 (by decide) ?_
  refine R_ac C hl.1 kaX4_43 hd y4 y5 h (Nat.le_of_ble_eq_true rfl) (Nat.le_of_ble_eq_true rfl) dX4_startAnew_36 (fun S H locs hd h => ?_)
  refine lv_aload_n hx hb dX4_startAnew_39 rfl (lv_at hl 1 rfl) ?_
  refine gX4_52 C hd k1 (q := sr a1 11) rfl dX4_startAnew_40 (fun y6 => ?_)
  refine lv_iconst (v := 0) hx hb dX4_startAnew_43 (by decide) ?_
  refine lv_aload_n hx hb dX4_startAnew_44 rfl (lv_at hl 0 rfl) ?_
  refine gX4_9 C hd k0 (q := sr a0 0) rfl dX4_startAnew_45 (fun y7 => ?_)
  refine lv_bipush (v := 98) hx hb dX4_startAnew_48 (by decide) ?_
  refine lv_bipush (v := 8) hx hb dX4_startAnew_50 (by decide) ?_
  refine R_ac C hl.1 kaX4_43 hd y6 y7 h (Nat.le_of_ble_eq_true rfl) (Nat.le_of_ble_eq_true rfl) dX4_startAnew_52 (fun S H locs hd h => ?_)
  refine lv_aload_n hx hb dX4_startAnew_55 rfl (lv_at hl 0 rfl) ?_
  refine lv_iconst (v := 0) hx hb dX4_startAnew_56 (by decide) ?_
  refine pX4_55 C hd k0 h dX4_startAnew_57 (fun S H locs hd h => ?_)
  refine lv_aload_n hx hb dX4_startAnew_60 rfl (lv_at hl 0 rfl) ?_
  refine lv_iconst (v := 0) hx hb dX4_startAnew_61 (by decide) ?_
  refine pX4_59 C hd k0 h dX4_startAnew_62 (fun S H locs hd h => ?_)
  refine lv_aload_n hx hb dX4_startAnew_65 rfl (lv_at hl 0 rfl) ?_
  refine lv_iconst (v := 0) hx hb dX4_startAnew_66 (by decide) ?_
  refine pX4_62 C hd k0 h dX4_startAnew_67 (fun S H locs hd h => ?_)
  exact R_vret C hr hd h dX4_startAnew_70
set_option maxRecDepth 20000 in
theorem ccX4_startAnew (l : Launch) (G : Gt) {a0 : Nat} {a1 : Nat} {S : St} {res : St} (k0 : kd a0 = 4) (k1 : kd a1 = 8) (h : fX4_startAnew a0 a1 S = some res) : Met l yX4_startAnew (wm yX4_startAnew cX4_startAnew 2 (none)) (rmL 4 0 0) (PcW G S [.ref (gR G a0), .ref (gR G a1)]) (QV G res) 0 0 (Ab G) := by
  refine Met.ofW (cc := cX4_startAnew) (maxL := 2) (ret := none) (by decide) rfl ?_
  intro p e s m args below meth c s₁ B hml hv
  obtain ⟨rfl, hK, hP⟩ := hv
  have C : Cx p s m _ meth c cX4_startAnew 2 RX4 G := ⟨⟨B.exec, B.bytes, hml, findClass_of_methodNamed B.named, fun w hw => atoms_spec (ws := wm yX4_startAnew cX4_startAnew 2 (none)) B.pre w (List.mem_cons_of_mem _ hw)⟩, B.notSynchronized, hK⟩
  have hl := lv_entry ([.ref (gR G a0), .ref (gR G a1)]) (n := 2) (Nat.le_of_ble_eq_true rfl)
  rw [lg_entry_eq]
  generalize (lg_sl ([.ref (gR G a0), .ref (gR G a1)]) ++ List.replicate (2 - (lg_sl ([.ref (gR G a0), .ref (gR G a1)])).length) Slot.unset).toArray = ls at hl ⊢
  exact sfX4_startAnew C B.returns k0 k1 ⟨hP, va_S.rf⟩ hl h
def fX4_refuse (a0 : Nat) (a1 : Int32) (S : St) : Option St :=
  rd S (sr a0 8) a1 fun x2 => wr S (sr a0 8) a1 (x2 + 1) fun S => some S
set_option maxHeartbeats 4000000 in
set_option maxRecDepth 20000 in
theorem sfX4_refuse (C : Cx p s m args meth c cX4_refuse 2 RX4 G) (hr : meth.sig.returnType = none) {a0 : Nat} {a1 : Int32} {S : St} {res : St} {H : Heap} {locs : List Loc} {ls : Array Slot} (k0 : kd a0 = 4) (hd : Dy G S s H locs) (hl : lv_has ls 2 [(0, .ref (gR G a0)), (1, .int a1)]) (h : fX4_refuse a0 a1 S = some res) : W p l e (rmL 3 0 0) s m args below meth c H locs 0 0 (MQ below (QV G res) args s 0 0 (Ab G)) (F0 m 0 ls []) := by
  unfold fX4_refuse at h
  have hx := C.1.1
  have hb := C.1.2.1
  refine lv_aload_n hx hb dX4_refuse_0 rfl (lv_at hl 0 rfl) ?_
  refine gX4_29 C hd k0 (q := sr a0 8) rfl dX4_refuse_1 (fun y1 => ?_)
  refine lv_iload_n hx hb dX4_refuse_4 rfl (lv_at hl 1 rfl) ?_
  refine lv_dup2_11 hx hb dX4_refuse_5 rfl rfl ?_
  refine R_iald C hd y1 h dX4_refuse_6 (fun x2 h => ?_)
  refine lv_iconst (v := 1) hx hb dX4_refuse_7 (by decide) ?_
  refine lv_iadd hx hb dX4_refuse_8 ?_
  refine R_iast C hd y1 h dX4_refuse_9 (fun S H locs hd h => ?_)
  exact R_vret C hr hd h dX4_refuse_10
set_option maxRecDepth 20000 in
theorem ccX4_refuse (l : Launch) (G : Gt) {a0 : Nat} {a1 : Int32} {S : St} {res : St} (k0 : kd a0 = 4) (h : fX4_refuse a0 a1 S = some res) : Met l yX4_refuse (wm yX4_refuse cX4_refuse 2 (none)) (rmL 3 0 0) (PcW G S [.ref (gR G a0), .int a1]) (QV G res) 0 0 (Ab G) := by
  refine Met.ofW (cc := cX4_refuse) (maxL := 2) (ret := none) (by decide) rfl ?_
  intro p e s m args below meth c s₁ B hml hv
  obtain ⟨rfl, hK, hP⟩ := hv
  have C : Cx p s m _ meth c cX4_refuse 2 RX4 G := ⟨⟨B.exec, B.bytes, hml, findClass_of_methodNamed B.named, fun w hw => atoms_spec (ws := wm yX4_refuse cX4_refuse 2 (none)) B.pre w (List.mem_cons_of_mem _ hw)⟩, B.notSynchronized, hK⟩
  have hl := lv_entry ([.ref (gR G a0), .int a1]) (n := 2) (Nat.le_of_ble_eq_true rfl)
  rw [lg_entry_eq]
  generalize (lg_sl ([.ref (gR G a0), .int a1]) ++ List.replicate (2 - (lg_sl ([.ref (gR G a0), .int a1])).length) Slot.unset).toArray = ls at hl ⊢
  exact sfX4_refuse C B.returns k0 ⟨hP, va_S.rf⟩ hl h
def BX4_keepAct_28 (l0 : Nat) (S : St) : Option St :=
  rm' ((S l0 2) + (S l0 3)) 40 fun x3 => rr (sr l0 1) x3 fun q4 => ac S (sr l0 0) 0 q4 0 106 fun S => pf S l0 3 ((S l0 3) + 1) fun S => some S
set_option maxHeartbeats 4000000 in
set_option maxRecDepth 20000 in
theorem sBX4_keepAct_28 (C : Cx p s m args meth c cX4_keepAct 1 RX4 G) (hr : meth.sig.returnType = none) {l0 : Nat} {S : St} {res : St} {H : Heap} {locs : List Loc} {ls : Array Slot} (kl0 : kd l0 = 4) (hd : Dy G S s H locs) (hl : lv_has ls 1 [(0, .ref (gR G l0))]) (h : BX4_keepAct_28 l0 S = some res) : W p l e (rmL 3 0 0) s m args below meth c H locs 0 0 (MQ below (QV G res) args s 0 0 (Ab G)) (F0 m 28 ls []) := by
  unfold BX4_keepAct_28 at h
  have hx := C.1.1
  have hb := C.1.2.1
  refine lv_aload_n hx hb dX4_keepAct_28 rfl (lv_at hl 0 rfl) ?_
  refine gX4_9 C hd kl0 (q := sr l0 0) rfl dX4_keepAct_29 (fun y1 => ?_)
  refine lv_iconst (v := 0) hx hb dX4_keepAct_32 (by decide) ?_
  refine lv_aload_n hx hb dX4_keepAct_33 rfl (lv_at hl 0 rfl) ?_
  refine gX4_17 C hd kl0 (q := sr l0 1) rfl dX4_keepAct_34 (fun y2 => ?_)
  refine lv_aload_n hx hb dX4_keepAct_37 rfl (lv_at hl 0 rfl) ?_
  refine gX4_55 C hd kl0 dX4_keepAct_38 ?_
  refine lv_aload_n hx hb dX4_keepAct_41 rfl (lv_at hl 0 rfl) ?_
  refine gX4_59 C hd kl0 dX4_keepAct_42 ?_
  refine lv_iadd hx hb dX4_keepAct_45 ?_
  refine lv_bipush (v := 40) hx hb dX4_keepAct_46 (by decide) ?_
  refine R_rem C h dX4_keepAct_48 (fun x3 h => ?_)
  refine R_aald C hd y2 h dX4_keepAct_49 (fun q4 kq4 h => ?_)
  refine lv_iconst (v := 0) hx hb dX4_keepAct_50 (by decide) ?_
  refine lv_bipush (v := 106) hx hb dX4_keepAct_51 (by decide) ?_
  refine R_ac C hl.1 kaX4_43 hd y1 kq4 h (Nat.le_of_ble_eq_true rfl) (Nat.le_of_ble_eq_true rfl) dX4_keepAct_53 (fun S H locs hd h => ?_)
  refine lv_aload_n hx hb dX4_keepAct_56 rfl (lv_at hl 0 rfl) ?_
  refine lv_dup hx hb dX4_keepAct_57 rfl ?_
  refine gX4_59 C hd kl0 dX4_keepAct_58 ?_
  refine lv_iconst (v := 1) hx hb dX4_keepAct_61 (by decide) ?_
  refine lv_iadd hx hb dX4_keepAct_62 ?_
  refine pX4_59 C hd kl0 h dX4_keepAct_63 (fun S H locs hd h => ?_)
  exact R_vret C hr hd h dX4_keepAct_66
def fX4_keepAct (a0 : Nat) (S : St) : Option St :=
  (if (S a0 3) < 40 then (BX4_keepAct_28 a0 S) else rm' ((S a0 2) + 1) 40 fun x2 => pf S a0 2 x2 fun S => pf S a0 3 39 fun S => (BX4_keepAct_28 a0 S))
set_option maxHeartbeats 4000000 in
set_option maxRecDepth 20000 in
theorem sfX4_keepAct (C : Cx p s m args meth c cX4_keepAct 1 RX4 G) (hr : meth.sig.returnType = none) {a0 : Nat} {S : St} {res : St} {H : Heap} {locs : List Loc} {ls : Array Slot} (k0 : kd a0 = 4) (hd : Dy G S s H locs) (hl : lv_has ls 1 [(0, .ref (gR G a0))]) (h : fX4_keepAct a0 S = some res) : W p l e (rmL 3 0 0) s m args below meth c H locs 0 0 (MQ below (QV G res) args s 0 0 (Ab G)) (F0 m 0 ls []) := by
  unfold fX4_keepAct at h
  have hx := C.1.1
  have hb := C.1.2.1
  refine lv_aload_n hx hb dX4_keepAct_0 rfl (lv_at hl 0 rfl) ?_
  refine gX4_59 C hd k0 dX4_keepAct_1 ?_
  refine lv_bipush (v := 40) hx hb dX4_keepAct_4 (by decide) ?_
  refine lv_icmp_lt (tgt := 28) hx hb dX4_keepAct_6 (by decide) (fun c1 => ?_) (fun c1 => ?_)
  · rw [if_pos c1] at h
    exact sBX4_keepAct_28 C hr k0 hd (lv_sub hl [0] rfl) h
  · rw [if_neg c1] at h
    refine lv_aload_n hx hb dX4_keepAct_9 rfl (lv_at hl 0 rfl) ?_
    refine lv_aload_n hx hb dX4_keepAct_10 rfl (lv_at hl 0 rfl) ?_
    refine gX4_55 C hd k0 dX4_keepAct_11 ?_
    refine lv_iconst (v := 1) hx hb dX4_keepAct_14 (by decide) ?_
    refine lv_iadd hx hb dX4_keepAct_15 ?_
    refine lv_bipush (v := 40) hx hb dX4_keepAct_16 (by decide) ?_
    refine R_rem C h dX4_keepAct_18 (fun x2 h => ?_)
    refine pX4_55 C hd k0 h dX4_keepAct_19 (fun S H locs hd h => ?_)
    refine lv_aload_n hx hb dX4_keepAct_22 rfl (lv_at hl 0 rfl) ?_
    refine lv_bipush (v := 39) hx hb dX4_keepAct_23 (by decide) ?_
    refine pX4_59 C hd k0 h dX4_keepAct_25 (fun S H locs hd h => ?_)
    exact sBX4_keepAct_28 C hr k0 hd (lv_sub hl [0] rfl) h
set_option maxRecDepth 20000 in
theorem ccX4_keepAct (l : Launch) (G : Gt) {a0 : Nat} {S : St} {res : St} (k0 : kd a0 = 4) (h : fX4_keepAct a0 S = some res) : Met l yX4_keepAct (wm yX4_keepAct cX4_keepAct 1 (none)) (rmL 3 0 0) (PcW G S [.ref (gR G a0)]) (QV G res) 0 0 (Ab G) := by
  refine Met.ofW (cc := cX4_keepAct) (maxL := 1) (ret := none) (by decide) rfl ?_
  intro p e s m args below meth c s₁ B hml hv
  obtain ⟨rfl, hK, hP⟩ := hv
  have C : Cx p s m _ meth c cX4_keepAct 1 RX4 G := ⟨⟨B.exec, B.bytes, hml, findClass_of_methodNamed B.named, fun w hw => atoms_spec (ws := wm yX4_keepAct cX4_keepAct 1 (none)) B.pre w (List.mem_cons_of_mem _ hw)⟩, B.notSynchronized, hK⟩
  have hl := lv_entry ([.ref (gR G a0)]) (n := 1) (Nat.le_of_ble_eq_true rfl)
  rw [lg_entry_eq]
  generalize (lg_sl ([.ref (gR G a0)]) ++ List.replicate (1 - (lg_sl ([.ref (gR G a0)])).length) Slot.unset).toArray = ls at hl ⊢
  exact sfX4_keepAct C B.returns k0 ⟨hP, va_S.rf⟩ hl h
def fX4_undoAct (a0 : Nat) (S : St) : Option (Int32 × St) :=
  (if 1 ≤ (S a0 3) then pf S a0 3 ((S a0 3) - 1) fun S => rm' ((S a0 2) + (S a0 3)) 40 fun x3 => rr (sr a0 1) x3 fun q4 => ac S q4 0 (sr a0 0) 0 106 fun S => rz 1 S else rz 0 S)
set_option maxHeartbeats 4000000 in
set_option maxRecDepth 20000 in
theorem sfX4_undoAct (C : Cx p s m args meth c cX4_undoAct 1 RX4 G) (hr : meth.sig.returnType = some .boolean) {a0 : Nat} {S : St} {res : (Int32 × St)} {H : Heap} {locs : List Loc} {ls : Array Slot} (k0 : kd a0 = 4) (hd : Dy G S s H locs) (hl : lv_has ls 1 [(0, .ref (gR G a0))]) (h : fX4_undoAct a0 S = some res) : W p l e (rmL 3 0 0) s m args below meth c H locs 0 0 (MQ below (QI G res.1 res.2) args s 0 0 (Ab G)) (F0 m 0 ls []) := by
  unfold fX4_undoAct at h
  have hx := C.1.1
  have hb := C.1.2.1
  refine lv_aload_n hx hb dX4_undoAct_0 rfl (lv_at hl 0 rfl) ?_
  refine gX4_59 C hd k0 dX4_undoAct_1 ?_
  refine lv_iconst (v := 1) hx hb dX4_undoAct_4 (by decide) ?_
  refine lv_icmp_ge (tgt := 10) hx hb dX4_undoAct_5 (by decide) (fun c1 => ?_) (fun c1 => ?_)
  · rw [if_pos c1] at h
    refine lv_aload_n hx hb dX4_undoAct_10 rfl (lv_at hl 0 rfl) ?_
    refine lv_dup hx hb dX4_undoAct_11 rfl ?_
    refine gX4_59 C hd k0 dX4_undoAct_12 ?_
    refine lv_iconst (v := 1) hx hb dX4_undoAct_15 (by decide) ?_
    refine lv_isub hx hb dX4_undoAct_16 ?_
    refine pX4_59 C hd k0 h dX4_undoAct_17 (fun S H locs hd h => ?_)
    refine lv_aload_n hx hb dX4_undoAct_20 rfl (lv_at hl 0 rfl) ?_
    refine gX4_17 C hd k0 (q := sr a0 1) rfl dX4_undoAct_21 (fun y2 => ?_)
    refine lv_aload_n hx hb dX4_undoAct_24 rfl (lv_at hl 0 rfl) ?_
    refine gX4_55 C hd k0 dX4_undoAct_25 ?_
    refine lv_aload_n hx hb dX4_undoAct_28 rfl (lv_at hl 0 rfl) ?_
    refine gX4_59 C hd k0 dX4_undoAct_29 ?_
    refine lv_iadd hx hb dX4_undoAct_32 ?_
    refine lv_bipush (v := 40) hx hb dX4_undoAct_33 (by decide) ?_
    refine R_rem C h dX4_undoAct_35 (fun x3 h => ?_)
    refine R_aald C hd y2 h dX4_undoAct_36 (fun q4 kq4 h => ?_)
    refine lv_iconst (v := 0) hx hb dX4_undoAct_37 (by decide) ?_
    refine lv_aload_n hx hb dX4_undoAct_38 rfl (lv_at hl 0 rfl) ?_
    refine gX4_9 C hd k0 (q := sr a0 0) rfl dX4_undoAct_39 (fun y5 => ?_)
    refine lv_iconst (v := 0) hx hb dX4_undoAct_42 (by decide) ?_
    refine lv_bipush (v := 106) hx hb dX4_undoAct_43 (by decide) ?_
    refine R_ac C hl.1 kaX4_43 hd kq4 y5 h (Nat.le_of_ble_eq_true rfl) (Nat.le_of_ble_eq_true rfl) dX4_undoAct_45 (fun S H locs hd h => ?_)
    refine lv_iconst (v := 1) hx hb dX4_undoAct_48 (by decide) ?_
    exact R_zret C hr hd h dX4_undoAct_49
  · rw [if_neg c1] at h
    refine lv_iconst (v := 0) hx hb dX4_undoAct_8 (by decide) ?_
    exact R_zret C hr hd h dX4_undoAct_9
set_option maxRecDepth 20000 in
theorem ccX4_undoAct (l : Launch) (G : Gt) {a0 : Nat} {S : St} {res : (Int32 × St)} (k0 : kd a0 = 4) (h : fX4_undoAct a0 S = some res) : Met l yX4_undoAct (wm yX4_undoAct cX4_undoAct 1 (some .boolean)) (rmL 3 0 0) (PcW G S [.ref (gR G a0)]) (QI G res.1 res.2) 0 0 (Ab G) := by
  refine Met.ofW (cc := cX4_undoAct) (maxL := 1) (ret := (some .boolean)) (by decide) rfl ?_
  intro p e s m args below meth c s₁ B hml hv
  obtain ⟨rfl, hK, hP⟩ := hv
  have C : Cx p s m _ meth c cX4_undoAct 1 RX4 G := ⟨⟨B.exec, B.bytes, hml, findClass_of_methodNamed B.named, fun w hw => atoms_spec (ws := wm yX4_undoAct cX4_undoAct 1 (some .boolean)) B.pre w (List.mem_cons_of_mem _ hw)⟩, B.notSynchronized, hK⟩
  have hl := lv_entry ([.ref (gR G a0)]) (n := 1) (Nat.le_of_ble_eq_true rfl)
  rw [lg_entry_eq]
  generalize (lg_sl ([.ref (gR G a0)]) ++ List.replicate (1 - (lg_sl ([.ref (gR G a0)])).length) Slot.unset).toArray = ls at hl ⊢
  exact sfX4_undoAct C B.returns k0 ⟨hP, va_S.rf⟩ hl h
def fX4_addHeard (a0 : Nat) (a1 : Int32) (a2 : Int32) (a3 : Int32) (S : St) : Option St :=
  (if 8 ≤ (S a0 4) then some S else wr S (sr a0 5) (S a0 4) a1 fun S => wr S (sr a0 6) (S a0 4) a2 fun S => wr S (sr a0 7) (S a0 4) a3 fun S => pf S a0 4 ((S a0 4) + 1) fun S => some S)
set_option maxHeartbeats 4000000 in
set_option maxRecDepth 20000 in
theorem sfX4_addHeard (C : Cx p s m args meth c cX4_addHeard 4 RX4 G) (hr : meth.sig.returnType = none) {a0 : Nat} {a1 : Int32} {a2 : Int32} {a3 : Int32} {S : St} {res : St} {H : Heap} {locs : List Loc} {ls : Array Slot} (k0 : kd a0 = 4) (hd : Dy G S s H locs) (hl : lv_has ls 4 [(0, .ref (gR G a0)), (1, .int a1), (2, .int a2), (3, .int a3)]) (h : fX4_addHeard a0 a1 a2 a3 S = some res) : W p l e (rmL 3 0 0) s m args below meth c H locs 0 0 (MQ below (QV G res) args s 0 0 (Ab G)) (F0 m 0 ls []) := by
  unfold fX4_addHeard at h
  have hx := C.1.1
  have hb := C.1.2.1
  refine lv_aload_n hx hb dX4_addHeard_0 rfl (lv_at hl 0 rfl) ?_
  refine gX4_62 C hd k0 dX4_addHeard_1 ?_
  refine lv_bipush (v := 8) hx hb dX4_addHeard_4 (by decide) ?_
  refine lv_icmp_ge (tgt := 49) hx hb dX4_addHeard_6 (by decide) (fun c1 => ?_) (fun c1 => ?_)
  · rw [if_pos c1] at h
    exact R_vret C hr hd h dX4_addHeard_49
  · rw [if_neg c1] at h
    refine lv_aload_n hx hb dX4_addHeard_9 rfl (lv_at hl 0 rfl) ?_
    refine gX4_20 C hd k0 (q := sr a0 5) rfl dX4_addHeard_10 (fun y2 => ?_)
    refine lv_aload_n hx hb dX4_addHeard_13 rfl (lv_at hl 0 rfl) ?_
    refine gX4_62 C hd k0 dX4_addHeard_14 ?_
    refine lv_iload_n hx hb dX4_addHeard_17 rfl (lv_at hl 1 rfl) ?_
    refine R_iast C hd y2 h dX4_addHeard_18 (fun S H locs hd h => ?_)
    refine lv_aload_n hx hb dX4_addHeard_19 rfl (lv_at hl 0 rfl) ?_
    refine gX4_23 C hd k0 (q := sr a0 6) rfl dX4_addHeard_20 (fun y3 => ?_)
    refine lv_aload_n hx hb dX4_addHeard_23 rfl (lv_at hl 0 rfl) ?_
    refine gX4_62 C hd k0 dX4_addHeard_24 ?_
    refine lv_iload_n hx hb dX4_addHeard_27 rfl (lv_at hl 2 rfl) ?_
    refine R_iast C hd y3 h dX4_addHeard_28 (fun S H locs hd h => ?_)
    refine lv_aload_n hx hb dX4_addHeard_29 rfl (lv_at hl 0 rfl) ?_
    refine gX4_26 C hd k0 (q := sr a0 7) rfl dX4_addHeard_30 (fun y4 => ?_)
    refine lv_aload_n hx hb dX4_addHeard_33 rfl (lv_at hl 0 rfl) ?_
    refine gX4_62 C hd k0 dX4_addHeard_34 ?_
    refine lv_iload_n hx hb dX4_addHeard_37 rfl (lv_at hl 3 rfl) ?_
    refine R_iast C hd y4 h dX4_addHeard_38 (fun S H locs hd h => ?_)
    refine lv_aload_n hx hb dX4_addHeard_39 rfl (lv_at hl 0 rfl) ?_
    refine lv_dup hx hb dX4_addHeard_40 rfl ?_
    refine gX4_62 C hd k0 dX4_addHeard_41 ?_
    refine lv_iconst (v := 1) hx hb dX4_addHeard_44 (by decide) ?_
    refine lv_iadd hx hb dX4_addHeard_45 ?_
    refine pX4_62 C hd k0 h dX4_addHeard_46 (fun S H locs hd h => ?_)
    exact R_vret C hr hd h dX4_addHeard_49
set_option maxRecDepth 20000 in
theorem ccX4_addHeard (l : Launch) (G : Gt) {a0 : Nat} {a1 : Int32} {a2 : Int32} {a3 : Int32} {S : St} {res : St} (k0 : kd a0 = 4) (h : fX4_addHeard a0 a1 a2 a3 S = some res) : Met l yX4_addHeard (wm yX4_addHeard cX4_addHeard 4 (none)) (rmL 3 0 0) (PcW G S [.ref (gR G a0), .int a1, .int a2, .int a3]) (QV G res) 0 0 (Ab G) := by
  refine Met.ofW (cc := cX4_addHeard) (maxL := 4) (ret := none) (by decide) rfl ?_
  intro p e s m args below meth c s₁ B hml hv
  obtain ⟨rfl, hK, hP⟩ := hv
  have C : Cx p s m _ meth c cX4_addHeard 4 RX4 G := ⟨⟨B.exec, B.bytes, hml, findClass_of_methodNamed B.named, fun w hw => atoms_spec (ws := wm yX4_addHeard cX4_addHeard 4 (none)) B.pre w (List.mem_cons_of_mem _ hw)⟩, B.notSynchronized, hK⟩
  have hl := lv_entry ([.ref (gR G a0), .int a1, .int a2, .int a3]) (n := 4) (Nat.le_of_ble_eq_true rfl)
  rw [lg_entry_eq]
  generalize (lg_sl ([.ref (gR G a0), .int a1, .int a2, .int a3]) ++ List.replicate (4 - (lg_sl ([.ref (gR G a0), .int a1, .int a2, .int a3])).length) Slot.unset).toArray = ls at hl ⊢
  exact sfX4_addHeard C B.returns k0 ⟨hP, va_S.rf⟩ hl h
def KX4_copy_33 (r33 : Nat → Nat → Int32 → St → Option St) (l0 : Nat) (l1 : Nat) (l2 : Int32) (S : St) : Option St :=
  (if (S l0 3) ≤ l2 then pf S l0 4 (S l1 4) fun S => ac S (sr l1 5) 0 (sr l0 5) 0 8 fun S => ac S (sr l1 6) 0 (sr l0 6) 0 8 fun S => ac S (sr l1 7) 0 (sr l0 7) 0 8 fun S => ac S (sr l1 8) 0 (sr l0 8) 0 3 fun S => some S else rm' ((S l0 2) + l2) 40 fun x10 => rr (sr l1 1) x10 fun q12 => rr (sr l0 1) x10 fun q14 => ac S q12 0 q14 0 106 fun S => vl (l2 + 1) fun x15 => (r33 l0 l1 x15 S))
set_option maxHeartbeats 4000000 in
set_option maxRecDepth 20000 in
theorem sKX4_copy_33 (C : Cx p s m args meth c cX4_copy 4 RX4 G) (hr : meth.sig.returnType = none) {r33 : Nat → Nat → Int32 → St → Option St} (hr33 : ∀ (l0 : Nat) (l1 : Nat) (l2 : Int32) (S : St) (res : St) (H : Heap) (locs : List Loc) (ls : Array Slot), kd l0 = 4 → kd l1 = 4 → Dy G S s H locs → lv_has ls 4 [(0, .ref (gR G l0)), (1, .ref (gR G l1)), (2, .int l2)] → r33 l0 l1 l2 S = some res → W p l e (rmL 3 0 0) s m args below meth c H locs 0 0 (MQ below (QV G res) args s 0 0 (Ab G)) (F0 m 33 ls [])) {l0 : Nat} {l1 : Nat} {l2 : Int32} {S : St} {res : St} {H : Heap} {locs : List Loc} {ls : Array Slot} (kl0 : kd l0 = 4) (kl1 : kd l1 = 4) (hd : Dy G S s H locs) (hl : lv_has ls 4 [(0, .ref (gR G l0)), (1, .ref (gR G l1)), (2, .int l2)]) (h : KX4_copy_33 r33 l0 l1 l2 S = some res) : W p l e (rmL 3 0 0) s m args below meth c H locs 0 0 (MQ below (QV G res) args s 0 0 (Ab G)) (F0 m 33 ls []) := by
  unfold KX4_copy_33 at h
  have hx := C.1.1
  have hb := C.1.2.1
  refine lv_iload_n hx hb dX4_copy_33 rfl (lv_at hl 2 rfl) ?_
  refine lv_aload_n hx hb dX4_copy_34 rfl (lv_at hl 0 rfl) ?_
  refine gX4_59 C hd kl0 dX4_copy_35 ?_
  refine lv_icmp_ge (tgt := 76) hx hb dX4_copy_38 (by decide) (fun c1 => ?_) (fun c1 => ?_)
  · rw [if_pos c1] at h
    refine lv_aload_n hx hb dX4_copy_76 rfl (lv_at hl 0 rfl) ?_
    refine lv_aload_n hx hb dX4_copy_77 rfl (lv_at hl 1 rfl) ?_
    refine gX4_62 C hd kl1 dX4_copy_78 ?_
    refine pX4_62 C hd kl0 h dX4_copy_81 (fun S H locs hd h => ?_)
    refine lv_aload_n hx hb dX4_copy_84 rfl (lv_at hl 1 rfl) ?_
    refine gX4_20 C hd kl1 (q := sr l1 5) rfl dX4_copy_85 (fun y2 => ?_)
    refine lv_iconst (v := 0) hx hb dX4_copy_88 (by decide) ?_
    refine lv_aload_n hx hb dX4_copy_89 rfl (lv_at hl 0 rfl) ?_
    refine gX4_20 C hd kl0 (q := sr l0 5) rfl dX4_copy_90 (fun y3 => ?_)
    refine lv_iconst (v := 0) hx hb dX4_copy_93 (by decide) ?_
    refine lv_bipush (v := 8) hx hb dX4_copy_94 (by decide) ?_
    refine R_ac C hl.1 kaX4_43 hd y2 y3 h (Nat.le_of_ble_eq_true rfl) (Nat.le_of_ble_eq_true rfl) dX4_copy_96 (fun S H locs hd h => ?_)
    refine lv_aload_n hx hb dX4_copy_99 rfl (lv_at hl 1 rfl) ?_
    refine gX4_23 C hd kl1 (q := sr l1 6) rfl dX4_copy_100 (fun y4 => ?_)
    refine lv_iconst (v := 0) hx hb dX4_copy_103 (by decide) ?_
    refine lv_aload_n hx hb dX4_copy_104 rfl (lv_at hl 0 rfl) ?_
    refine gX4_23 C hd kl0 (q := sr l0 6) rfl dX4_copy_105 (fun y5 => ?_)
    refine lv_iconst (v := 0) hx hb dX4_copy_108 (by decide) ?_
    refine lv_bipush (v := 8) hx hb dX4_copy_109 (by decide) ?_
    refine R_ac C hl.1 kaX4_43 hd y4 y5 h (Nat.le_of_ble_eq_true rfl) (Nat.le_of_ble_eq_true rfl) dX4_copy_111 (fun S H locs hd h => ?_)
    refine lv_aload_n hx hb dX4_copy_114 rfl (lv_at hl 1 rfl) ?_
    refine gX4_26 C hd kl1 (q := sr l1 7) rfl dX4_copy_115 (fun y6 => ?_)
    refine lv_iconst (v := 0) hx hb dX4_copy_118 (by decide) ?_
    refine lv_aload_n hx hb dX4_copy_119 rfl (lv_at hl 0 rfl) ?_
    refine gX4_26 C hd kl0 (q := sr l0 7) rfl dX4_copy_120 (fun y7 => ?_)
    refine lv_iconst (v := 0) hx hb dX4_copy_123 (by decide) ?_
    refine lv_bipush (v := 8) hx hb dX4_copy_124 (by decide) ?_
    refine R_ac C hl.1 kaX4_43 hd y6 y7 h (Nat.le_of_ble_eq_true rfl) (Nat.le_of_ble_eq_true rfl) dX4_copy_126 (fun S H locs hd h => ?_)
    refine lv_aload_n hx hb dX4_copy_129 rfl (lv_at hl 1 rfl) ?_
    refine gX4_29 C hd kl1 (q := sr l1 8) rfl dX4_copy_130 (fun y8 => ?_)
    refine lv_iconst (v := 0) hx hb dX4_copy_133 (by decide) ?_
    refine lv_aload_n hx hb dX4_copy_134 rfl (lv_at hl 0 rfl) ?_
    refine gX4_29 C hd kl0 (q := sr l0 8) rfl dX4_copy_135 (fun y9 => ?_)
    refine lv_iconst (v := 0) hx hb dX4_copy_138 (by decide) ?_
    refine lv_iconst (v := 3) hx hb dX4_copy_139 (by decide) ?_
    refine R_ac C hl.1 kaX4_43 hd y8 y9 h (Nat.le_of_ble_eq_true rfl) (Nat.le_of_ble_eq_true rfl) dX4_copy_140 (fun S H locs hd h => ?_)
    exact R_vret C hr hd h dX4_copy_143
  · rw [if_neg c1] at h
    refine lv_aload_n hx hb dX4_copy_41 rfl (lv_at hl 0 rfl) ?_
    refine gX4_55 C hd kl0 dX4_copy_42 ?_
    refine lv_iload_n hx hb dX4_copy_45 rfl (lv_at hl 2 rfl) ?_
    refine lv_iadd hx hb dX4_copy_46 ?_
    refine lv_bipush (v := 40) hx hb dX4_copy_47 (by decide) ?_
    refine R_rem C h dX4_copy_49 (fun x10 h => ?_)
    refine lv_istore_n (lv' := [(3, .int x10), (0, .ref (gR G l0)), (1, .ref (gR G l1)), (2, .int l2)]) hx hb dX4_copy_50 rfl hl (by decide) rfl (fun ls hl => ?_)
    refine lv_aload_n hx hb dX4_copy_51 rfl (lv_at hl 2 rfl) ?_
    refine gX4_17 C hd kl1 (q := sr l1 1) rfl dX4_copy_52 (fun y11 => ?_)
    refine lv_iload_n hx hb dX4_copy_55 rfl (lv_at hl 0 rfl) ?_
    refine R_aald C hd y11 h dX4_copy_56 (fun q12 kq12 h => ?_)
    refine lv_iconst (v := 0) hx hb dX4_copy_57 (by decide) ?_
    refine lv_aload_n hx hb dX4_copy_58 rfl (lv_at hl 1 rfl) ?_
    refine gX4_17 C hd kl0 (q := sr l0 1) rfl dX4_copy_59 (fun y13 => ?_)
    refine lv_iload_n hx hb dX4_copy_62 rfl (lv_at hl 0 rfl) ?_
    refine R_aald C hd y13 h dX4_copy_63 (fun q14 kq14 h => ?_)
    refine lv_iconst (v := 0) hx hb dX4_copy_64 (by decide) ?_
    refine lv_bipush (v := 106) hx hb dX4_copy_65 (by decide) ?_
    refine R_ac C hl.1 kaX4_43 hd kq12 kq14 h (Nat.le_of_ble_eq_true rfl) (Nat.le_of_ble_eq_true rfl) dX4_copy_67 (fun S H locs hd h => ?_)
    refine R_vi h (fun x15 ex15 h => ?_)
    refine lv_iinc (v := x15) (lv' := [(2, .int x15), (3, .int x10), (0, .ref (gR G l0)), (1, .ref (gR G l1))]) hx hb dX4_copy_70 hl (k := 3) rfl (by rw [ex15]; rfl) (by decide) rfl (fun ls hl => ?_)
    refine lv_goto (tgt := 33) hx hb dX4_copy_73 (by decide) ?_
    exact hr33 l0 l1 x15 _ _ _ _ _ kl0 kl1 hd (lv_sub hl [2, 3, 0] rfl) h
def LX4_copy_33 : Nat → Nat → Nat → Int32 → St → Option St
  | 0 => fun _ _ _ _ => none
  | n + 1 => fun l0 l1 l2 S => KX4_copy_33 (LX4_copy_33 n) l0 l1 l2 S
theorem sLX4_copy_33 (C : Cx p s m args meth c cX4_copy 4 RX4 G) (hr : meth.sig.returnType = none) : ∀ (n : Nat) (l0 : Nat) (l1 : Nat) (l2 : Int32) (S : St) (res : St) (H : Heap) (locs : List Loc) (ls : Array Slot), kd l0 = 4 → kd l1 = 4 → Dy G S s H locs → lv_has ls 4 [(0, .ref (gR G l0)), (1, .ref (gR G l1)), (2, .int l2)] → LX4_copy_33 n l0 l1 l2 S = some res → W p l e (rmL 3 0 0) s m args below meth c H locs 0 0 (MQ below (QV G res) args s 0 0 (Ab G)) (F0 m 33 ls []) := by
  intro n
  induction n with
  | zero => intro l0 l1 l2 S res H locs ls kl0 kl1 hd hl h; cases h
  | succ n ih =>
    intro l0 l1 l2 S res H locs ls kl0 kl1 hd hl h
    exact sKX4_copy_33 C hr ih kl0 kl1 hd hl h
def fX4_copy (a0 : Nat) (a1 : Nat) (S : St) : Option St :=
  ac S (sr a1 0) 0 (sr a0 0) 0 106 fun S => pf S a0 2 (S a1 2) fun S => pf S a0 3 (S a1 3) fun S => (LX4_copy_33 FU a0 a1 0 S)
set_option maxHeartbeats 4000000 in
set_option maxRecDepth 20000 in
theorem sfX4_copy (C : Cx p s m args meth c cX4_copy 4 RX4 G) (hr : meth.sig.returnType = none) {a0 : Nat} {a1 : Nat} {S : St} {res : St} {H : Heap} {locs : List Loc} {ls : Array Slot} (k0 : kd a0 = 4) (k1 : kd a1 = 4) (hd : Dy G S s H locs) (hl : lv_has ls 4 [(0, .ref (gR G a0)), (1, .ref (gR G a1))]) (h : fX4_copy a0 a1 S = some res) : W p l e (rmL 3 0 0) s m args below meth c H locs 0 0 (MQ below (QV G res) args s 0 0 (Ab G)) (F0 m 0 ls []) := by
  unfold fX4_copy at h
  have hx := C.1.1
  have hb := C.1.2.1
  refine lv_aload_n hx hb dX4_copy_0 rfl (lv_at hl 1 rfl) ?_
  refine gX4_9 C hd k1 (q := sr a1 0) rfl dX4_copy_1 (fun y1 => ?_)
  refine lv_iconst (v := 0) hx hb dX4_copy_4 (by decide) ?_
  refine lv_aload_n hx hb dX4_copy_5 rfl (lv_at hl 0 rfl) ?_
  refine gX4_9 C hd k0 (q := sr a0 0) rfl dX4_copy_6 (fun y2 => ?_)
  refine lv_iconst (v := 0) hx hb dX4_copy_9 (by decide) ?_
  refine lv_bipush (v := 106) hx hb dX4_copy_10 (by decide) ?_
  refine R_ac C hl.1 kaX4_43 hd y1 y2 h (Nat.le_of_ble_eq_true rfl) (Nat.le_of_ble_eq_true rfl) dX4_copy_12 (fun S H locs hd h => ?_)
  refine lv_aload_n hx hb dX4_copy_15 rfl (lv_at hl 0 rfl) ?_
  refine lv_aload_n hx hb dX4_copy_16 rfl (lv_at hl 1 rfl) ?_
  refine gX4_55 C hd k1 dX4_copy_17 ?_
  refine pX4_55 C hd k0 h dX4_copy_20 (fun S H locs hd h => ?_)
  refine lv_aload_n hx hb dX4_copy_23 rfl (lv_at hl 0 rfl) ?_
  refine lv_aload_n hx hb dX4_copy_24 rfl (lv_at hl 1 rfl) ?_
  refine gX4_59 C hd k1 dX4_copy_25 ?_
  refine pX4_59 C hd k0 h dX4_copy_28 (fun S H locs hd h => ?_)
  refine lv_iconst (v := 0) hx hb dX4_copy_31 (by decide) ?_
  refine lv_istore_n (lv' := [(2, .int 0), (0, .ref (gR G a0)), (1, .ref (gR G a1))]) hx hb dX4_copy_32 rfl hl (by decide) rfl (fun ls hl => ?_)
  exact sLX4_copy_33 C hr _ a0 a1 0 _ _ _ _ _ k0 k1 hd (lv_sub hl [1, 2, 0] rfl) h
set_option maxRecDepth 20000 in
theorem ccX4_copy (l : Launch) (G : Gt) {a0 : Nat} {a1 : Nat} {S : St} {res : St} (k0 : kd a0 = 4) (k1 : kd a1 = 4) (h : fX4_copy a0 a1 S = some res) : Met l yX4_copy (wm yX4_copy cX4_copy 4 (none)) (rmL 3 0 0) (PcW G S [.ref (gR G a0), .ref (gR G a1)]) (QV G res) 0 0 (Ab G) := by
  refine Met.ofW (cc := cX4_copy) (maxL := 4) (ret := none) (by decide) rfl ?_
  intro p e s m args below meth c s₁ B hml hv
  obtain ⟨rfl, hK, hP⟩ := hv
  have C : Cx p s m _ meth c cX4_copy 4 RX4 G := ⟨⟨B.exec, B.bytes, hml, findClass_of_methodNamed B.named, fun w hw => atoms_spec (ws := wm yX4_copy cX4_copy 4 (none)) B.pre w (List.mem_cons_of_mem _ hw)⟩, B.notSynchronized, hK⟩
  have hl := lv_entry ([.ref (gR G a0), .ref (gR G a1)]) (n := 4) (Nat.le_of_ble_eq_true rfl)
  rw [lg_entry_eq]
  generalize (lg_sl ([.ref (gR G a0), .ref (gR G a1)]) ++ List.replicate (4 - (lg_sl ([.ref (gR G a0), .ref (gR G a1)])).length) Slot.unset).toArray = ls at hl ⊢
  exact sfX4_copy C B.returns k0 k1 ⟨hP, va_S.rf⟩ hl h
def fX7_begin (a1 : Int32) (S : St) : Option St :=
  vl (if 700 < a1 then 700 else a1) fun x2 => pf S 33 1 x2 fun S => pf S 33 2 0 fun S => bv (fX7_advance  S) fun S => some S
set_option maxHeartbeats 4000000 in
set_option maxRecDepth 20000 in
theorem sfX7_begin (C : Cx p s m args meth c cX7_begin 2 RX7 G) (hr : meth.sig.returnType = none) {a1 : Int32} {S : St} {res : St} {H : Heap} {locs : List Loc} {ls : Array Slot}  (hd : Dy G S s H locs) (hl : lv_has ls 2 [(0, .ref (gR G 33)), (1, .int a1)]) (h : fX7_begin a1 S = some res) : W p l e (rmL 5 0 0) s m args below meth c H locs 0 0 (MQ below (QV G res) args s 0 0 (Ab G)) (F0 m 0 ls []) := by
  unfold fX7_begin at h
  have hx := C.1.1
  have hb := C.1.2.1
  refine lv_aload_n hx hb dX7_begin_0 rfl (lv_at hl 0 rfl) ?_
  refine lv_iload_n hx hb dX7_begin_1 rfl (lv_at hl 1 rfl) ?_
  refine lv_aload_n hx hb dX7_begin_2 rfl (lv_at hl 0 rfl) ?_
  refine gX7_7 C hd (rfl : kd 33 = 7) (q := 1) rfl dX7_begin_3 (fun y1 => ?_)
  refine R_alenB C hd y1 (v := 700) rfl dX7_begin_6 ?_
  refine R_mmin C hl.1 kmX7_13 (Nat.le_of_ble_eq_true rfl) (Nat.le_of_ble_eq_true rfl) (Nat.le_of_ble_eq_true rfl) (Nat.le_of_ble_eq_true rfl) dX7_begin_7 ?_
  refine R_vl h (fun x2 h => ?_)
  refine pX7_19 C hd (rfl : kd 33 = 7) h dX7_begin_10 (fun S H locs hd h => ?_)
  refine lv_aload_n hx hb dX7_begin_13 rfl (lv_at hl 0 rfl) ?_
  refine lv_iconst (v := 0) hx hb dX7_begin_14 (by decide) ?_
  refine pX7_23 C hd (rfl : kd 33 = 7) h dX7_begin_15 (fun S H locs hd h => ?_)
  refine lv_aload_n hx hb dX7_begin_18 rfl (lv_at hl 0 rfl) ?_
  obtain ⟨S1, hc, h⟩ := bv_some h
  refine R_cVv C hd (ccX7_advance l G  hc) kX7_26 rfl (by decide) (rfl : kd 33 = 7) hl.1 ⟨by decide, by decide⟩ rfl rfl (Nat.le_of_ble_eq_true rfl) dX7_begin_19 ⟨Nat.zero_le _, Nat.zero_le _⟩ (fun H locs hd => ?_)
  generalize S1 = S at h hd
  exact R_vret C hr hd h dX7_begin_22
set_option maxRecDepth 20000 in
theorem ccX7_begin (l : Launch) (G : Gt) {a1 : Int32} {S : St} {res : St}  (h : fX7_begin a1 S = some res) : Met l yX7_begin (wm yX7_begin cX7_begin 2 (none)) (rmL 5 0 0) (PcW G S [.ref (gR G 33), .int a1]) (QV G res) 0 0 (Ab G) := by
  refine Met.ofW (cc := cX7_begin) (maxL := 2) (ret := none) (by decide) rfl ?_
  intro p e s m args below meth c s₁ B hml hv
  obtain ⟨rfl, hK, hP⟩ := hv
  have C : Cx p s m _ meth c cX7_begin 2 RX7 G := ⟨⟨B.exec, B.bytes, hml, findClass_of_methodNamed B.named, fun w hw => atoms_spec (ws := wm yX7_begin cX7_begin 2 (none)) B.pre w (List.mem_cons_of_mem _ hw)⟩, B.notSynchronized, hK⟩
  have hl := lv_entry ([.ref (gR G 33), .int a1]) (n := 2) (Nat.le_of_ble_eq_true rfl)
  rw [lg_entry_eq]
  generalize (lg_sl ([.ref (gR G 33), .int a1]) ++ List.replicate (2 - (lg_sl ([.ref (gR G 33), .int a1])).length) Slot.unset).toArray = ls at hl ⊢
  exact sfX7_begin C B.returns  ⟨hP, va_S.rf⟩ hl h
end T21
