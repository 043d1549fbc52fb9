section T26
variable {p : Program} {l : Launch} {e : Env} {s : State} {m : MethodId} {args : Array Value} {below : List Frame} {meth : Method} {c : Code} {G : Gt}
def KX1_addFound_31 (r31 : Int32 → St → Option St) (l2 : Int32) (S : St) : Option St :=
  (if (S 137 5) ≤ l2 then some S else rd S 138 l2 fun x3 => rd S 139 l2 fun x5 => wr S 138 l2 (x3 ||| ((1 : Int32) <<< ((x5 + 1) &&& 31))) fun S => vl (l2 + 1) fun x6 => (r31 x6 S))
set_option maxHeartbeats 4000000 in
set_option maxRecDepth 20000 in
theorem sKX1_addFound_31 (C : Cx p s m args meth c cX1_addFound 3 RX1 G) (hr : meth.sig.returnType = none) {r31 : Int32 → St → Option St} (hr31 : ∀ (l2 : Int32) (S : St) (res : St) (H : Heap) (locs : List Loc) (ls : Array Slot), Dy G S s H locs → lv_has ls 3 [(0, .ref (gR G 137)), (2, .int l2)] → r31 l2 S = some res → W p l e (rmL 3 0 0) s m args below meth c H locs 0 0 (MQ below (QV G res) args s 0 0 (Ab G)) (F0 m 31 ls [])) {l2 : Int32} {S : St} {res : St} {H : Heap} {locs : List Loc} {ls : Array Slot}  (hd : Dy G S s H locs) (hl : lv_has ls 3 [(0, .ref (gR G 137)), (2, .int l2)]) (h : KX1_addFound_31 r31 l2 S = some res) : W p l e (rmL 3 0 0) s m args below meth c H locs 0 0 (MQ below (QV G res) args s 0 0 (Ab G)) (F0 m 31 ls []) := by
  unfold KX1_addFound_31 at h
  have hx := C.1.1
  have hb := C.1.2.1
  refine lv_iload_n hx hb dX1_addFound_31 rfl (lv_at hl 1 rfl) ?_
  refine lv_aload_n hx hb dX1_addFound_32 rfl (lv_at hl 0 rfl) ?_
  refine gX1_34 C hd (rfl : kd 137 = 1) dX1_addFound_33 ?_
  refine lv_icmp_ge (tgt := 64) hx hb dX1_addFound_36 (by decide) (fun c1 => ?_) (fun c1 => ?_)
  · rw [if_pos c1] at h
    exact R_vret C hr hd h dX1_addFound_64
  · rw [if_neg c1] at h
    refine lv_aload_n hx hb dX1_addFound_39 rfl (lv_at hl 0 rfl) ?_
    refine gX1_9 C hd (rfl : kd 137 = 1) (q := 138) rfl dX1_addFound_40 (fun y2 => ?_)
    refine lv_iload_n hx hb dX1_addFound_43 rfl (lv_at hl 1 rfl) ?_
    refine lv_dup2_11 hx hb dX1_addFound_44 rfl rfl ?_
    refine R_iald C hd y2 h dX1_addFound_45 (fun x3 h => ?_)
    refine lv_iconst (v := 1) hx hb dX1_addFound_46 (by decide) ?_
    refine lv_aload_n hx hb dX1_addFound_47 rfl (lv_at hl 0 rfl) ?_
    refine gX1_15 C hd (rfl : kd 137 = 1) (q := 139) rfl dX1_addFound_48 (fun y4 => ?_)
    refine lv_iload_n hx hb dX1_addFound_51 rfl (lv_at hl 1 rfl) ?_
    refine R_iald C hd y4 h dX1_addFound_52 (fun x5 h => ?_)
    refine lv_iconst (v := 1) hx hb dX1_addFound_53 (by decide) ?_
    refine lv_iadd hx hb dX1_addFound_54 ?_
    refine lv_ishl hx hb dX1_addFound_55 ?_
    refine lv_ior hx hb dX1_addFound_56 ?_
    refine R_iast C hd y2 h dX1_addFound_57 (fun S H locs hd h => ?_)
    refine R_vi h (fun x6 ex6 h => ?_)
    refine lv_iinc (v := x6) (lv' := [(2, .int x6), (0, .ref (gR G 137))]) hx hb dX1_addFound_58 hl (k := 1) rfl (by rw [ex6]; rfl) (by decide) rfl (fun ls hl => ?_)
    refine lv_goto (tgt := 31) hx hb dX1_addFound_61 (by decide) ?_
    exact hr31 x6 _ _ _ _ _  hd (lv_sub hl [1, 0] rfl) h
def LX1_addFound_31 : Nat → Int32 → St → Option St
  | 0 => fun _ _ => none
  | n + 1 => fun l2 S => KX1_addFound_31 (LX1_addFound_31 n) l2 S
theorem sLX1_addFound_31 (C : Cx p s m args meth c cX1_addFound 3 RX1 G) (hr : meth.sig.returnType = none) : ∀ (n : Nat) (l2 : Int32) (S : St) (res : St) (H : Heap) (locs : List Loc) (ls : Array Slot), Dy G S s H locs → lv_has ls 3 [(0, .ref (gR G 137)), (2, .int l2)] → LX1_addFound_31 n l2 S = some res → W p l e (rmL 3 0 0) s m args below meth c H locs 0 0 (MQ below (QV G res) args s 0 0 (Ab G)) (F0 m 31 ls []) := by
  intro n
  induction n with
  | zero => intro l2 S res H locs ls  hd hl h; cases h
  | succ n ih =>
    intro l2 S res H locs ls  hd hl h
    exact sKX1_addFound_31 C hr ih  hd hl h
def BX1_addFound_16 (s1 : Int32) (S : St) : Option St :=
  pf S 137 2 s1 fun S => pf S 137 1 ((S 137 1) + 1) fun S => (LX1_addFound_31 FU 0 S)
set_option maxHeartbeats 4000000 in
set_option maxRecDepth 20000 in
theorem sBX1_addFound_16 (C : Cx p s m args meth c cX1_addFound 3 RX1 G) (hr : meth.sig.returnType = none) {s1 : Int32} {S : St} {res : St} {H : Heap} {locs : List Loc} {ls : Array Slot}  (hd : Dy G S s H locs) (hl : lv_has ls 3 [(0, .ref (gR G 137))]) (h : BX1_addFound_16 s1 S = some res) : W p l e (rmL 3 0 0) s m args below meth c H locs 0 0 (MQ below (QV G res) args s 0 0 (Ab G)) (F0 m 16 ls [.int s1, .ref (gR G 137)]) := by
  unfold BX1_addFound_16 at h
  have hx := C.1.1
  have hb := C.1.2.1
  refine pX1_26 C hd (rfl : kd 137 = 1) h dX1_addFound_16 (fun S H locs hd h => ?_)
  refine lv_aload_n hx hb dX1_addFound_19 rfl (lv_at hl 0 rfl) ?_
  refine lv_dup hx hb dX1_addFound_20 rfl ?_
  refine gX1_22 C hd (rfl : kd 137 = 1) dX1_addFound_21 ?_
  refine lv_iconst (v := 1) hx hb dX1_addFound_24 (by decide) ?_
  refine lv_iadd hx hb dX1_addFound_25 ?_
  refine pX1_22 C hd (rfl : kd 137 = 1) h dX1_addFound_26 (fun S H locs hd h => ?_)
  refine lv_iconst (v := 0) hx hb dX1_addFound_29 (by decide) ?_
  refine lv_istore_n (lv' := [(2, .int 0), (0, .ref (gR G 137))]) hx hb dX1_addFound_30 rfl hl (by decide) rfl (fun ls hl => ?_)
  exact sLX1_addFound_31 C hr _ 0 _ _ _ _ _  hd (lv_sub hl [1, 0] rfl) h
def fX1_addFound (a1 : Int32) (S : St) : Option St :=
  (if (S 137 1) = 0 then (BX1_addFound_16 a1 S) else (BX1_addFound_16 (S 137 2) S))
set_option maxHeartbeats 4000000 in
set_option maxRecDepth 20000 in
theorem sfX1_addFound (C : Cx p s m args meth c cX1_addFound 3 RX1 G) (hr : meth.sig.returnType = none) {a1 : Int32} {S : St} {res : St} {H : Heap} {locs : List Loc} {ls : Array Slot}  (hd : Dy G S s H locs) (hl : lv_has ls 3 [(0, .ref (gR G 137)), (1, .int a1)]) (h : fX1_addFound a1 S = some res) : W p l e (rmL 3 0 0) s m args below meth c H locs 0 0 (MQ below (QV G res) args s 0 0 (Ab G)) (F0 m 0 ls []) := by
  unfold fX1_addFound at h
  have hx := C.1.1
  have hb := C.1.2.1
  refine lv_aload_n hx hb dX1_addFound_0 rfl (lv_at hl 0 rfl) ?_
  refine lv_aload_n hx hb dX1_addFound_1 rfl (lv_at hl 0 rfl) ?_
  refine gX1_22 C hd (rfl : kd 137 = 1) dX1_addFound_2 ?_
  refine lv_if_ne (tgt := 12) hx hb dX1_addFound_5 (by decide) (fun c1 => ?_) (fun c1 => ?_)
  · rw [if_neg c1] at h
    refine lv_aload_n hx hb dX1_addFound_12 rfl (lv_at hl 0 rfl) ?_
    refine gX1_26 C hd (rfl : kd 137 = 1) dX1_addFound_13 ?_
    exact sBX1_addFound_16 C hr  hd (lv_sub hl [0] rfl) h
  · rw [if_pos c1] at h
    refine lv_iload_n hx hb dX1_addFound_8 rfl (lv_at hl 1 rfl) ?_
    refine lv_goto (tgt := 16) hx hb dX1_addFound_9 (by decide) ?_
    exact sBX1_addFound_16 C hr  hd (lv_sub hl [0] rfl) h
set_option maxRecDepth 20000 in
theorem ccX1_addFound (l : Launch) (G : Gt) {a1 : Int32} {S : St} {res : St}  (h : fX1_addFound a1 S = some res) : Met l yX1_addFound (wm yX1_addFound cX1_addFound 3 (none)) (rmL 3 0 0) (PcW G S [.ref (gR G 137), .int a1]) (QV G res) 0 0 (Ab G) := by
  refine Met.ofW (cc := cX1_addFound) (maxL := 3) (ret := none) (by decide) rfl ?_
  intro p e s m args below meth c s₁ B hml hv
  obtain ⟨rfl, hK, hP⟩ := hv
  have C : Cx p s m _ meth c cX1_addFound 3 RX1 G := ⟨⟨B.exec, B.bytes, hml, findClass_of_methodNamed B.named, fun w hw => atoms_spec (ws := wm yX1_addFound cX1_addFound 3 (none)) B.pre w (List.mem_cons_of_mem _ hw)⟩, B.notSynchronized, hK⟩
  have hl := lv_entry ([.ref (gR G 137), .int a1]) (n := 3) (Nat.le_of_ble_eq_true rfl)
  rw [lg_entry_eq]
  generalize (lg_sl ([.ref (gR G 137), .int a1]) ++ List.replicate (3 - (lg_sl ([.ref (gR G 137), .int a1])).length) Slot.unset).toArray = ls at hl ⊢
  exact sfX1_addFound C B.returns  ⟨hP, va_S.rf⟩ hl h
def BX1_holds_158 (r48 : Nat → Int32 → Int32 → St → Option (Int32 × St)) (l2 : Nat) (l5 : Int32) (l6 : Int32) (S : St) : Option (Int32 × St) :=
  vl (l6 + 1) fun x1 => (r48 l2 l5 x1 S)
set_option maxHeartbeats 4000000 in
set_option maxRecDepth 20000 in
theorem sBX1_holds_158 (C : Cx p s m args meth c cX1_holds 8 RX1 G) (hr : meth.sig.returnType = some .boolean) {r48 : Nat → Int32 → Int32 → St → Option (Int32 × St)} (hr48 : ∀ (l2 : Nat) (l5 : Int32) (l6 : Int32) (S : St) (res : (Int32 × St)) (H : Heap) (locs : List Loc) (ls : Array Slot), kd l2 = 4 → Dy G S s H locs → lv_has ls 8 [(0, .ref (gR G 137)), (2, .ref (gR G l2)), (5, .int l5), (6, .int l6)] → r48 l2 l5 l6 S = some res → W p l e (rmL 7 0 0) s m args below meth c H locs 0 0 (MQ below (QI G res.1 res.2) args s 0 0 (Ab G)) (F0 m 48 ls [])) {l2 : Nat} {l5 : Int32} {l6 : Int32} {S : St} {res : (Int32 × St)} {H : Heap} {locs : List Loc} {ls : Array Slot} (kl2 : kd l2 = 4) (hd : Dy G S s H locs) (hl : lv_has ls 8 [(0, .ref (gR G 137)), (2, .ref (gR G l2)), (5, .int l5), (6, .int l6)]) (h : BX1_holds_158 r48 l2 l5 l6 S = some res) : W p l e (rmL 7 0 0) s m args below meth c H locs 0 0 (MQ below (QI G res.1 res.2) args s 0 0 (Ab G)) (F0 m 158 ls []) := by
  unfold BX1_holds_158 at h
  have hx := C.1.1
  have hb := C.1.2.1
  refine R_vi h (fun x1 ex1 h => ?_)
  refine lv_iinc (v := x1) (lv' := [(6, .int x1), (0, .ref (gR G 137)), (2, .ref (gR G l2)), (5, .int l5)]) hx hb dX1_holds_158 hl (k := 3) rfl (by rw [ex1]; rfl) (by decide) rfl (fun ls hl => ?_)
  refine lv_goto (tgt := 48) hx hb dX1_holds_161 (by decide) ?_
  exact hr48 l2 l5 x1 _ _ _ _ _ kl2 hd (lv_sub hl [1, 2, 3, 0] rfl) h
def KX1_holds_121 (r48 : Nat → Int32 → Int32 → St → Option (Int32 × St)) (r121 : Nat → Int32 → Int32 → Int32 → St → Option (Int32 × St)) (l2 : Nat) (l5 : Int32) (l6 : Int32) (l7 : Int32) (S : St) : Option (Int32 × St) :=
  (if l6 = 1 then (if (S 137 5) ≤ l7 then (BX1_holds_158 r48 l2 l5 l6 S) else bd (fX0_leastSungIn l7 S) fun x5 S => wr S 139 l7 x5 fun S => vl (l7 + 1) fun x6 => (r121 l2 l5 l6 x6 S)) else (BX1_holds_158 r48 l2 l5 l6 S))
set_option maxHeartbeats 4000000 in
set_option maxRecDepth 20000 in
theorem sKX1_holds_121 (C : Cx p s m args meth c cX1_holds 8 RX1 G) (hr : meth.sig.returnType = some .boolean) {r48 : Nat → Int32 → Int32 → St → Option (Int32 × St)} {r121 : Nat → Int32 → Int32 → Int32 → St → Option (Int32 × St)} (hr48 : ∀ (l2 : Nat) (l5 : Int32) (l6 : Int32) (S : St) (res : (Int32 × St)) (H : Heap) (locs : List Loc) (ls : Array Slot), kd l2 = 4 → Dy G S s H locs → lv_has ls 8 [(0, .ref (gR G 137)), (2, .ref (gR G l2)), (5, .int l5), (6, .int l6)] → r48 l2 l5 l6 S = some res → W p l e (rmL 7 0 0) s m args below meth c H locs 0 0 (MQ below (QI G res.1 res.2) args s 0 0 (Ab G)) (F0 m 48 ls [])) (hr121 : ∀ (l2 : Nat) (l5 : Int32) (l6 : Int32) (l7 : Int32) (S : St) (res : (Int32 × St)) (H : Heap) (locs : List Loc) (ls : Array Slot), kd l2 = 4 → Dy G S s H locs → lv_has ls 8 [(0, .ref (gR G 137)), (2, .ref (gR G l2)), (5, .int l5), (6, .int l6), (7, .int l7)] → r121 l2 l5 l6 l7 S = some res → W p l e (rmL 7 0 0) s m args below meth c H locs 0 0 (MQ below (QI G res.1 res.2) args s 0 0 (Ab G)) (F0 m 121 ls [])) {l2 : Nat} {l5 : Int32} {l6 : Int32} {l7 : Int32} {S : St} {res : (Int32 × St)} {H : Heap} {locs : List Loc} {ls : Array Slot} (kl2 : kd l2 = 4) (hd : Dy G S s H locs) (hl : lv_has ls 8 [(0, .ref (gR G 137)), (2, .ref (gR G l2)), (5, .int l5), (6, .int l6), (7, .int l7)]) (h : KX1_holds_121 r48 r121 l2 l5 l6 l7 S = some res) : W p l e (rmL 7 0 0) s m args below meth c H locs 0 0 (MQ below (QI G res.1 res.2) args s 0 0 (Ab G)) (F0 m 121 ls []) := by
  unfold KX1_holds_121 at h
  have hx := C.1.1
  have hb := C.1.2.1
  refine lv_iload hx hb dX1_holds_121 (lv_at hl 3 rfl) ?_
  refine lv_iconst (v := 1) hx hb dX1_holds_123 (by decide) ?_
  refine lv_icmp_ne (tgt := 158) hx hb dX1_holds_124 (by decide) (fun c1 => ?_) (fun c1 => ?_)
  · rw [if_neg c1] at h
    exact sBX1_holds_158 C hr hr48 kl2 hd (lv_sub hl [0, 1, 2, 3] rfl) h
  · rw [if_pos c1] at h
    refine lv_iload hx hb dX1_holds_127 (lv_at hl 4 rfl) ?_
    refine lv_aload_n hx hb dX1_holds_129 rfl (lv_at hl 0 rfl) ?_
    refine gX1_34 C hd (rfl : kd 137 = 1) dX1_holds_130 ?_
    refine lv_icmp_ge (tgt := 158) hx hb dX1_holds_133 (by decide) (fun c2 => ?_) (fun c2 => ?_)
    · rw [if_pos c2] at h
      exact sBX1_holds_158 C hr hr48 kl2 hd (lv_sub hl [0, 1, 2, 3] rfl) h
    · rw [if_neg c2] at h
      refine lv_aload_n hx hb dX1_holds_136 rfl (lv_at hl 0 rfl) ?_
      refine gX1_15 C hd (rfl : kd 137 = 1) (q := 139) rfl dX1_holds_137 (fun y3 => ?_)
      refine lv_iload hx hb dX1_holds_140 (lv_at hl 4 rfl) ?_
      refine lv_aload_n hx hb dX1_holds_142 rfl (lv_at hl 0 rfl) ?_
      refine gX1_18 C hd (rfl : kd 137 = 1) (q := 130) rfl dX1_holds_143 (fun y4 => ?_)
      refine lv_iload hx hb dX1_holds_146 (lv_at hl 4 rfl) ?_
      obtain ⟨x5, S1, hc, h⟩ := bd_some h
      refine R_cVi C hd (ccX0_leastSungIn l G  hc) kX1_96 rfl (by decide) y4 hl.1 ⟨by decide, by decide⟩ rfl rfl (Nat.le_of_ble_eq_true rfl) dX1_holds_148 ⟨Nat.zero_le _, Nat.zero_le _⟩ (fun H locs hd => ?_)
      generalize S1 = S at h hd
      refine R_iast C hd y3 h dX1_holds_151 (fun S H locs hd h => ?_)
      refine R_vi h (fun x6 ex6 h => ?_)
      refine lv_iinc (v := x6) (lv' := [(7, .int x6), (0, .ref (gR G 137)), (2, .ref (gR G l2)), (5, .int l5), (6, .int l6)]) hx hb dX1_holds_152 hl (k := 4) rfl (by rw [ex6]; rfl) (by decide) rfl (fun ls hl => ?_)
      refine lv_goto (tgt := 121) hx hb dX1_holds_155 (by decide) ?_
      exact hr121 l2 l5 l6 x6 _ _ _ _ _ kl2 hd (lv_sub hl [1, 2, 3, 4, 0] rfl) h
def LX1_holds_121 (r48 : Nat → Int32 → Int32 → St → Option (Int32 × St)) : Nat → Nat → Int32 → Int32 → Int32 → St → Option (Int32 × St)
  | 0 => fun _ _ _ _ _ => none
  | n + 1 => fun l2 l5 l6 l7 S => KX1_holds_121 r48 (LX1_holds_121 r48 n) l2 l5 l6 l7 S
theorem sLX1_holds_121 (C : Cx p s m args meth c cX1_holds 8 RX1 G) (hr : meth.sig.returnType = some .boolean) {r48 : Nat → Int32 → Int32 → St → Option (Int32 × St)} (hr48 : ∀ (l2 : Nat) (l5 : Int32) (l6 : Int32) (S : St) (res : (Int32 × St)) (H : Heap) (locs : List Loc) (ls : Array Slot), kd l2 = 4 → Dy G S s H locs → lv_has ls 8 [(0, .ref (gR G 137)), (2, .ref (gR G l2)), (5, .int l5), (6, .int l6)] → r48 l2 l5 l6 S = some res → W p l e (rmL 7 0 0) s m args below meth c H locs 0 0 (MQ below (QI G res.1 res.2) args s 0 0 (Ab G)) (F0 m 48 ls [])) : ∀ (n : Nat) (l2 : Nat) (l5 : Int32) (l6 : Int32) (l7 : Int32) (S : St) (res : (Int32 × St)) (H : Heap) (locs : List Loc) (ls : Array Slot), kd l2 = 4 → Dy G S s H locs → lv_has ls 8 [(0, .ref (gR G 137)), (2, .ref (gR G l2)), (5, .int l5), (6, .int l6), (7, .int l7)] → LX1_holds_121 r48 n l2 l5 l6 l7 S = some res → W p l e (rmL 7 0 0) s m args below meth c H locs 0 0 (MQ below (QI G res.1 res.2) args s 0 0 (Ab G)) (F0 m 121 ls []) := by
  intro n
  induction n with
  | zero => intro l2 l5 l6 l7 S res H locs ls kl2 hd hl h; cases h
  | succ n ih =>
    intro l2 l5 l6 l7 S res H locs ls kl2 hd hl h
    exact sKX1_holds_121 C hr hr48 ih kl2 hd hl h
def BX1_holds_112 (r48 : Nat → Int32 → Int32 → St → Option (Int32 × St)) (r65 : Nat → Int32 → Int32 → Int32 → St → Option (Int32 × St)) (l2 : Nat) (l5 : Int32) (l6 : Int32) (l7 : Int32) (S : St) : Option (Int32 × St) :=
  vl (l7 + 1) fun x1 => (r65 l2 l5 l6 x1 S)
set_option maxHeartbeats 4000000 in
set_option maxRecDepth 20000 in
theorem sBX1_holds_112 (C : Cx p s m args meth c cX1_holds 8 RX1 G) (hr : meth.sig.returnType = some .boolean) {r48 : Nat → Int32 → Int32 → St → Option (Int32 × St)} {r65 : Nat → Int32 → Int32 → Int32 → St → Option (Int32 × St)} (hr48 : ∀ (l2 : Nat) (l5 : Int32) (l6 : Int32) (S : St) (res : (Int32 × St)) (H : Heap) (locs : List Loc) (ls : Array Slot), kd l2 = 4 → Dy G S s H locs → lv_has ls 8 [(0, .ref (gR G 137)), (2, .ref (gR G l2)), (5, .int l5), (6, .int l6)] → r48 l2 l5 l6 S = some res → W p l e (rmL 7 0 0) s m args below meth c H locs 0 0 (MQ below (QI G res.1 res.2) args s 0 0 (Ab G)) (F0 m 48 ls [])) (hr65 : ∀ (l2 : Nat) (l5 : Int32) (l6 : Int32) (l7 : Int32) (S : St) (res : (Int32 × St)) (H : Heap) (locs : List Loc) (ls : Array Slot), kd l2 = 4 → Dy G S s H locs → lv_has ls 8 [(0, .ref (gR G 137)), (2, .ref (gR G l2)), (5, .int l5), (6, .int l6), (7, .int l7)] → r65 l2 l5 l6 l7 S = some res → W p l e (rmL 7 0 0) s m args below meth c H locs 0 0 (MQ below (QI G res.1 res.2) args s 0 0 (Ab G)) (F0 m 65 ls [])) {l2 : Nat} {l5 : Int32} {l6 : Int32} {l7 : Int32} {S : St} {res : (Int32 × St)} {H : Heap} {locs : List Loc} {ls : Array Slot} (kl2 : kd l2 = 4) (hd : Dy G S s H locs) (hl : lv_has ls 8 [(0, .ref (gR G 137)), (2, .ref (gR G l2)), (5, .int l5), (6, .int l6), (7, .int l7)]) (h : BX1_holds_112 r48 r65 l2 l5 l6 l7 S = some res) : W p l e (rmL 7 0 0) s m args below meth c H locs 0 0 (MQ below (QI G res.1 res.2) args s 0 0 (Ab G)) (F0 m 112 ls []) := by
  unfold BX1_holds_112 at h
  have hx := C.1.1
  have hb := C.1.2.1
  refine R_vi h (fun x1 ex1 h => ?_)
  refine lv_iinc (v := x1) (lv' := [(7, .int x1), (0, .ref (gR G 137)), (2, .ref (gR G l2)), (5, .int l5), (6, .int l6)]) hx hb dX1_holds_112 hl (k := 4) rfl (by rw [ex1]; rfl) (by decide) rfl (fun ls hl => ?_)
  refine lv_goto (tgt := 65) hx hb dX1_holds_115 (by decide) ?_
  exact hr65 l2 l5 l6 x1 _ _ _ _ _ kl2 hd (lv_sub hl [1, 2, 3, 4, 0] rfl) h
def KX1_holds_65 (r48 : Nat → Int32 → Int32 → St → Option (Int32 × St)) (r65 : Nat → Int32 → Int32 → Int32 → St → Option (Int32 × St)) (l2 : Nat) (l5 : Int32) (l6 : Int32) (l7 : Int32) (S : St) : Option (Int32 × St) :=
  (if (S l2 4) ≤ l7 then (LX1_holds_121 r48 FU l2 l5 l6 0 S) else rd S (sr l2 6) l7 fun x3 => (if x3 = l6 then rd S (sr l2 5) l7 fun x7 => rd S (sr l2 7) l7 fun x9 => bd (fX0_wasSungIn x7 x9 S) fun x10 S => (if x10 = 0 then rz 0 S else (BX1_holds_112 r48 r65 l2 l5 l6 l7 S)) else (BX1_holds_112 r48 r65 l2 l5 l6 l7 S)))
set_option maxHeartbeats 4000000 in
set_option maxRecDepth 20000 in
theorem sKX1_holds_65 (C : Cx p s m args meth c cX1_holds 8 RX1 G) (hr : meth.sig.returnType = some .boolean) {r48 : Nat → Int32 → Int32 → St → Option (Int32 × St)} {r65 : Nat → Int32 → Int32 → Int32 → St → Option (Int32 × St)} (hr48 : ∀ (l2 : Nat) (l5 : Int32) (l6 : Int32) (S : St) (res : (Int32 × St)) (H : Heap) (locs : List Loc) (ls : Array Slot), kd l2 = 4 → Dy G S s H locs → lv_has ls 8 [(0, .ref (gR G 137)), (2, .ref (gR G l2)), (5, .int l5), (6, .int l6)] → r48 l2 l5 l6 S = some res → W p l e (rmL 7 0 0) s m args below meth c H locs 0 0 (MQ below (QI G res.1 res.2) args s 0 0 (Ab G)) (F0 m 48 ls [])) (hr65 : ∀ (l2 : Nat) (l5 : Int32) (l6 : Int32) (l7 : Int32) (S : St) (res : (Int32 × St)) (H : Heap) (locs : List Loc) (ls : Array Slot), kd l2 = 4 → Dy G S s H locs → lv_has ls 8 [(0, .ref (gR G 137)), (2, .ref (gR G l2)), (5, .int l5), (6, .int l6), (7, .int l7)] → r65 l2 l5 l6 l7 S = some res → W p l e (rmL 7 0 0) s m args below meth c H locs 0 0 (MQ below (QI G res.1 res.2) args s 0 0 (Ab G)) (F0 m 65 ls [])) {l2 : Nat} {l5 : Int32} {l6 : Int32} {l7 : Int32} {S : St} {res : (Int32 × St)} {H : Heap} {locs : List Loc} {ls : Array Slot} (kl2 : kd l2 = 4) (hd : Dy G S s H locs) (hl : lv_has ls 8 [(0, .ref (gR G 137)), (2, .ref (gR G l2)), (5, .int l5), (6, .int l6), (7, .int l7)]) (h : KX1_holds_65 r48 r65 l2 l5 l6 l7 S = some res) : W p l e (rmL 7 0 0) s m args below meth c H locs 0 0 (MQ below (QI G res.1 res.2) args s 0 0 (Ab G)) (F0 m 65 ls []) := by
  unfold KX1_holds_65 at h
  have hx := C.1.1
  have hb := C.1.2.1
  refine lv_iload hx hb dX1_holds_65 (lv_at hl 4 rfl) ?_
  refine lv_aload_n hx hb dX1_holds_67 rfl (lv_at hl 1 rfl) ?_
  refine gX1_80 C hd kl2 dX1_holds_68 ?_
  refine lv_icmp_ge (tgt := 118) hx hb dX1_holds_71 (by decide) (fun c1 => ?_) (fun c1 => ?_)
  · rw [if_pos c1] at h
    refine lv_iconst (v := 0) hx hb dX1_holds_118 (by decide) ?_
    refine lv_istore (lv' := [(7, .int 0), (0, .ref (gR G 137)), (2, .ref (gR G l2)), (5, .int l5), (6, .int l6)]) hx hb dX1_holds_119 hl (by decide) rfl (fun ls hl => ?_)
    exact sLX1_holds_121 C hr hr48 _ l2 l5 l6 0 _ _ _ _ _ kl2 hd (lv_sub hl [1, 2, 3, 4, 0] rfl) h
  · rw [if_neg c1] at h
    refine lv_aload_n hx hb dX1_holds_74 rfl (lv_at hl 1 rfl) ?_
    refine gX1_83 C hd kl2 (q := sr l2 6) rfl dX1_holds_75 (fun y2 => ?_)
    refine lv_iload hx hb dX1_holds_78 (lv_at hl 4 rfl) ?_
    refine R_iald C hd y2 h dX1_holds_80 (fun x3 h => ?_)
    refine lv_iload hx hb dX1_holds_81 (lv_at hl 3 rfl) ?_
    refine lv_icmp_ne (tgt := 112) hx hb dX1_holds_83 (by decide) (fun c4 => ?_) (fun c4 => ?_)
    · rw [if_neg c4] at h
      exact sBX1_holds_112 C hr hr48 hr65 kl2 hd (lv_sub hl [0, 1, 2, 3, 4] rfl) h
    · rw [if_pos c4] at h
      refine lv_aload_n hx hb dX1_holds_86 rfl (lv_at hl 0 rfl) ?_
      refine gX1_18 C hd (rfl : kd 137 = 1) (q := 130) rfl dX1_holds_87 (fun y5 => ?_)
      refine lv_aload_n hx hb dX1_holds_90 rfl (lv_at hl 1 rfl) ?_
      refine gX1_86 C hd kl2 (q := sr l2 5) rfl dX1_holds_91 (fun y6 => ?_)
      refine lv_iload hx hb dX1_holds_94 (lv_at hl 4 rfl) ?_
      refine R_iald C hd y6 h dX1_holds_96 (fun x7 h => ?_)
      refine lv_aload_n hx hb dX1_holds_97 rfl (lv_at hl 1 rfl) ?_
      refine gX1_89 C hd kl2 (q := sr l2 7) rfl dX1_holds_98 (fun y8 => ?_)
      refine lv_iload hx hb dX1_holds_101 (lv_at hl 4 rfl) ?_
      refine R_iald C hd y8 h dX1_holds_103 (fun x9 h => ?_)
      obtain ⟨x10, S1, hc, h⟩ := bd_some h
      refine R_cVi C hd (ccX0_wasSungIn l G  hc) kX1_92 rfl (by decide) y5 hl.1 ⟨by decide, by decide⟩ rfl rfl (Nat.le_of_ble_eq_true rfl) dX1_holds_104 ⟨Nat.zero_le _, Nat.zero_le _⟩ (fun H locs hd => ?_)
      generalize S1 = S at h hd
      refine lv_if_ne (tgt := 112) hx hb dX1_holds_107 (by decide) (fun c11 => ?_) (fun c11 => ?_)
      · rw [if_neg c11] at h
        exact sBX1_holds_112 C hr hr48 hr65 kl2 hd (lv_sub hl [0, 1, 2, 3, 4] rfl) h
      · rw [if_pos c11] at h
        refine lv_iconst (v := 0) hx hb dX1_holds_110 (by decide) ?_
        exact R_zret C hr hd h dX1_holds_111
def LX1_holds_65 (r48 : Nat → Int32 → Int32 → St → Option (Int32 × St)) : Nat → Nat → Int32 → Int32 → Int32 → St → Option (Int32 × St)
  | 0 => fun _ _ _ _ _ => none
  | n + 1 => fun l2 l5 l6 l7 S => KX1_holds_65 r48 (LX1_holds_65 r48 n) l2 l5 l6 l7 S
theorem sLX1_holds_65 (C : Cx p s m args meth c cX1_holds 8 RX1 G) (hr : meth.sig.returnType = some .boolean) {r48 : Nat → Int32 → Int32 → St → Option (Int32 × St)} (hr48 : ∀ (l2 : Nat) (l5 : Int32) (l6 : Int32) (S : St) (res : (Int32 × St)) (H : Heap) (locs : List Loc) (ls : Array Slot), kd l2 = 4 → Dy G S s H locs → lv_has ls 8 [(0, .ref (gR G 137)), (2, .ref (gR G l2)), (5, .int l5), (6, .int l6)] → r48 l2 l5 l6 S = some res → W p l e (rmL 7 0 0) s m args below meth c H locs 0 0 (MQ below (QI G res.1 res.2) args s 0 0 (Ab G)) (F0 m 48 ls [])) : ∀ (n : Nat) (l2 : Nat) (l5 : Int32) (l6 : Int32) (l7 : Int32) (S : St) (res : (Int32 × St)) (H : Heap) (locs : List Loc) (ls : Array Slot), kd l2 = 4 → Dy G S s H locs → lv_has ls 8 [(0, .ref (gR G 137)), (2, .ref (gR G l2)), (5, .int l5), (6, .int l6), (7, .int l7)] → LX1_holds_65 r48 n l2 l5 l6 l7 S = some res → W p l e (rmL 7 0 0) s m args below meth c H locs 0 0 (MQ below (QI G res.1 res.2) args s 0 0 (Ab G)) (F0 m 65 ls []) := by
  intro n
  induction n with
  | zero => intro l2 l5 l6 l7 S res H locs ls kl2 hd hl h; cases h
  | succ n ih =>
    intro l2 l5 l6 l7 S res H locs ls kl2 hd hl h
    exact sKX1_holds_65 C hr hr48 ih kl2 hd hl h
def KX1_holds_48 (r48 : Nat → Int32 → Int32 → St → Option (Int32 × St)) (l2 : Nat) (l5 : Int32) (l6 : Int32) (S : St) : Option (Int32 × St) :=
  (if l5 < l6 then rz 1 S else bv (fX0_goHour  S) fun S => (LX1_holds_65 r48 FU l2 l5 l6 0 S))
set_option maxHeartbeats 4000000 in
set_option maxRecDepth 20000 in
theorem sKX1_holds_48 (C : Cx p s m args meth c cX1_holds 8 RX1 G) (hr : meth.sig.returnType = some .boolean) {r48 : Nat → Int32 → Int32 → St → Option (Int32 × St)} (hr48 : ∀ (l2 : Nat) (l5 : Int32) (l6 : Int32) (S : St) (res : (Int32 × St)) (H : Heap) (locs : List Loc) (ls : Array Slot), kd l2 = 4 → Dy G S s H locs → lv_has ls 8 [(0, .ref (gR G 137)), (2, .ref (gR G l2)), (5, .int l5), (6, .int l6)] → r48 l2 l5 l6 S = some res → W p l e (rmL 7 0 0) s m args below meth c H locs 0 0 (MQ below (QI G res.1 res.2) args s 0 0 (Ab G)) (F0 m 48 ls [])) {l2 : Nat} {l5 : Int32} {l6 : Int32} {S : St} {res : (Int32 × St)} {H : Heap} {locs : List Loc} {ls : Array Slot} (kl2 : kd l2 = 4) (hd : Dy G S s H locs) (hl : lv_has ls 8 [(0, .ref (gR G 137)), (2, .ref (gR G l2)), (5, .int l5), (6, .int l6)]) (h : KX1_holds_48 r48 l2 l5 l6 S = some res) : W p l e (rmL 7 0 0) s m args below meth c H locs 0 0 (MQ below (QI G res.1 res.2) args s 0 0 (Ab G)) (F0 m 48 ls []) := by
  unfold KX1_holds_48 at h
  have hx := C.1.1
  have hb := C.1.2.1
  refine lv_iload hx hb dX1_holds_48 (lv_at hl 3 rfl) ?_
  refine lv_iload hx hb dX1_holds_50 (lv_at hl 2 rfl) ?_
  refine lv_icmp_gt (tgt := 164) hx hb dX1_holds_52 (by decide) (fun c1 => ?_) (fun c1 => ?_)
  · rw [if_pos c1] at h
    refine lv_iconst (v := 1) hx hb dX1_holds_164 (by decide) ?_
    exact R_zret C hr hd h dX1_holds_165
  · rw [if_neg c1] at h
    refine lv_aload_n hx hb dX1_holds_55 rfl (lv_at hl 0 rfl) ?_
    refine gX1_18 C hd (rfl : kd 137 = 1) (q := 130) rfl dX1_holds_56 (fun y2 => ?_)
    obtain ⟨S1, hc, h⟩ := bv_some h
    refine R_cVv C hd (ccX0_goHour l G  hc) kX1_77 rfl (by decide) y2 hl.1 ⟨by decide, by decide⟩ rfl rfl (Nat.le_of_ble_eq_true rfl) dX1_holds_59 ⟨Nat.zero_le _, Nat.zero_le _⟩ (fun H locs hd => ?_)
    generalize S1 = S at h hd
    refine lv_iconst (v := 0) hx hb dX1_holds_62 (by decide) ?_
    refine lv_istore (lv' := [(7, .int 0), (0, .ref (gR G 137)), (2, .ref (gR G l2)), (5, .int l5), (6, .int l6)]) hx hb dX1_holds_63 hl (by decide) rfl (fun ls hl => ?_)
    exact sLX1_holds_65 C hr hr48 _ l2 l5 l6 0 _ _ _ _ _ kl2 hd (lv_sub hl [1, 2, 3, 4, 0] rfl) h
def LX1_holds_48 : Nat → Nat → Int32 → Int32 → St → Option (Int32 × St)
  | 0 => fun _ _ _ _ => none
  | n + 1 => fun l2 l5 l6 S => KX1_holds_48 (LX1_holds_48 n) l2 l5 l6 S
theorem sLX1_holds_48 (C : Cx p s m args meth c cX1_holds 8 RX1 G) (hr : meth.sig.returnType = some .boolean) : ∀ (n : Nat) (l2 : Nat) (l5 : Int32) (l6 : Int32) (S : St) (res : (Int32 × St)) (H : Heap) (locs : List Loc) (ls : Array Slot), kd l2 = 4 → Dy G S s H locs → lv_has ls 8 [(0, .ref (gR G 137)), (2, .ref (gR G l2)), (5, .int l5), (6, .int l6)] → LX1_holds_48 n l2 l5 l6 S = some res → W p l e (rmL 7 0 0) s m args below meth c H locs 0 0 (MQ below (QI G res.1 res.2) args s 0 0 (Ab G)) (F0 m 48 ls []) := by
  intro n
  induction n with
  | zero => intro l2 l5 l6 S res H locs ls kl2 hd hl h; cases h
  | succ n ih =>
    intro l2 l5 l6 S res H locs ls kl2 hd hl h
    exact sKX1_holds_48 C hr ih kl2 hd hl h
def BX1_holds_35 (l2 : Nat) (S : St) : Option (Int32 × St) :=
  bd (fX4_lastHeardHour l2 S) fun x1 S => vl (if 1 < x1 then x1 else 1) fun x2 => (LX1_holds_48 FU l2 x2 1 S)
set_option maxHeartbeats 4000000 in
set_option maxRecDepth 20000 in
theorem sBX1_holds_35 (C : Cx p s m args meth c cX1_holds 8 RX1 G) (hr : meth.sig.returnType = some .boolean) {l2 : Nat} {S : St} {res : (Int32 × St)} {H : Heap} {locs : List Loc} {ls : Array Slot} (kl2 : kd l2 = 4) (hd : Dy G S s H locs) (hl : lv_has ls 8 [(0, .ref (gR G 137)), (2, .ref (gR G l2))]) (h : BX1_holds_35 l2 S = some res) : W p l e (rmL 7 0 0) s m args below meth c H locs 0 0 (MQ below (QI G res.1 res.2) args s 0 0 (Ab G)) (F0 m 35 ls []) := by
  unfold BX1_holds_35 at h
  have hx := C.1.1
  have hb := C.1.2.1
  refine lv_iconst (v := 1) hx hb dX1_holds_35 (by decide) ?_
  refine lv_aload_n hx hb dX1_holds_36 rfl (lv_at hl 1 rfl) ?_
  obtain ⟨x1, S1, hc, h⟩ := bd_some h
  refine R_cVi C hd (ccX4_lastHeardHour l G kl2 hc) kX1_67 rfl (by decide) kl2 hl.1 ⟨by decide, by decide⟩ rfl rfl (Nat.le_of_ble_eq_true rfl) dX1_holds_37 ⟨Nat.zero_le _, Nat.zero_le _⟩ (fun H locs hd => ?_)
  generalize S1 = S at h hd
  refine R_mmax C hl.1 kmX1_71 (Nat.le_of_ble_eq_true rfl) (Nat.le_of_ble_eq_true rfl) (Nat.le_of_ble_eq_true rfl) (Nat.le_of_ble_eq_true rfl) dX1_holds_40 ?_
  refine R_vl h (fun x2 h => ?_)
  refine lv_istore (lv' := [(5, .int x2), (0, .ref (gR G 137)), (2, .ref (gR G l2))]) hx hb dX1_holds_43 hl (by decide) rfl (fun ls hl => ?_)
  refine lv_iconst (v := 1) hx hb dX1_holds_45 (by decide) ?_
  refine lv_istore (lv' := [(6, .int 1), (5, .int x2), (0, .ref (gR G 137)), (2, .ref (gR G l2))]) hx hb dX1_holds_46 hl (by decide) rfl (fun ls hl => ?_)
  exact sLX1_holds_48 C hr _ l2 x2 1 _ _ _ _ _ kl2 hd (lv_sub hl [2, 3, 1, 0] rfl) h
def fX1_holds (a1 : Nat) (a2 : Nat) (a3 : Int32) (a4 : Int32) (S : St) : Option (Int32 × St) :=
  bv (fX0_begin a1 (sr a2 0) S) fun S => (if a3 < 62 then (BX1_holds_35 a2 S) else (if 98 ≤ a3 then (BX1_holds_35 a2 S) else wr S 131 a3 a4 fun S => (BX1_holds_35 a2 S)))
set_option maxHeartbeats 4000000 in
set_option maxRecDepth 20000 in
theorem sfX1_holds (C : Cx p s m args meth c cX1_holds 8 RX1 G) (hr : meth.sig.returnType = some .boolean) {a1 : Nat} {a2 : Nat} {a3 : Int32} {a4 : Int32} {S : St} {res : (Int32 × St)} {H : Heap} {locs : List Loc} {ls : Array Slot} (k1 : kd a1 = 8) (k2 : kd a2 = 4) (hd : Dy G S s H locs) (hl : lv_has ls 8 [(0, .ref (gR G 137)), (1, .ref (gR G a1)), (2, .ref (gR G a2)), (3, .int a3), (4, .int a4)]) (h : fX1_holds a1 a2 a3 a4 S = some res) : W p l e (rmL 7 0 0) s m args below meth c H locs 0 0 (MQ below (QI G res.1 res.2) args s 0 0 (Ab G)) (F0 m 0 ls []) := by
  unfold fX1_holds at h
  have hx := C.1.1
  have hb := C.1.2.1
  refine lv_aload_n hx hb dX1_holds_0 rfl (lv_at hl 0 rfl) ?_
  refine gX1_18 C hd (rfl : kd 137 = 1) (q := 130) rfl dX1_holds_1 (fun y1 => ?_)
  refine lv_aload_n hx hb dX1_holds_4 rfl (lv_at hl 1 rfl) ?_
  refine lv_aload_n hx hb dX1_holds_5 rfl (lv_at hl 2 rfl) ?_
  refine gX1_47 C hd k2 (q := sr a2 0) rfl dX1_holds_6 (fun y2 => ?_)
  obtain ⟨S1, hc, h⟩ := bv_some h
  refine R_cVv C hd (ccX0_begin l G k1 y2 hc) kX1_60 rfl (by decide) y1 hl.1 ⟨by decide, by decide⟩ rfl rfl (Nat.le_of_ble_eq_true rfl) dX1_holds_9 ⟨Nat.zero_le _, Nat.zero_le _⟩ (fun H locs hd => ?_)
  generalize S1 = S at h hd
  refine lv_iload_n hx hb dX1_holds_12 rfl (lv_at hl 3 rfl) ?_
  refine lv_bipush (v := 62) hx hb dX1_holds_13 (by decide) ?_
  refine lv_icmp_lt (tgt := 35) hx hb dX1_holds_15 (by decide) (fun c3 => ?_) (fun c3 => ?_)
  · rw [if_pos c3] at h
    exact sBX1_holds_35 C hr k2 hd (lv_sub hl [0, 2] rfl) h
  · rw [if_neg c3] at h
    refine lv_iload_n hx hb dX1_holds_18 rfl (lv_at hl 3 rfl) ?_
    refine lv_bipush (v := 98) hx hb dX1_holds_19 (by decide) ?_
    refine lv_icmp_ge (tgt := 35) hx hb dX1_holds_21 (by decide) (fun c4 => ?_) (fun c4 => ?_)
    · rw [if_pos c4] at h
      exact sBX1_holds_35 C hr k2 hd (lv_sub hl [0, 2] rfl) h
    · rw [if_neg c4] at h
      refine lv_aload_n hx hb dX1_holds_24 rfl (lv_at hl 0 rfl) ?_
      refine gX1_18 C hd (rfl : kd 137 = 1) (q := 130) rfl dX1_holds_25 (fun y5 => ?_)
      refine gX1_66 C hd y5 (q := 131) rfl dX1_holds_28 (fun y6 => ?_)
      refine lv_iload_n hx hb dX1_holds_31 rfl (lv_at hl 3 rfl) ?_
      refine lv_iload hx hb dX1_holds_32 (lv_at hl 4 rfl) ?_
      refine R_iast C hd y6 h dX1_holds_34 (fun S H locs hd h => ?_)
      exact sBX1_holds_35 C hr k2 hd (lv_sub hl [0, 2] rfl) h
set_option maxRecDepth 20000 in
theorem ccX1_holds (l : Launch) (G : Gt) {a1 : Nat} {a2 : Nat} {a3 : Int32} {a4 : Int32} {S : St} {res : (Int32 × St)} (k1 : kd a1 = 8) (k2 : kd a2 = 4) (h : fX1_holds a1 a2 a3 a4 S = some res) : Met l yX1_holds (wm yX1_holds cX1_holds 8 (some .boolean)) (rmL 7 0 0) (PcW G S [.ref (gR G 137), .ref (gR G a1), .ref (gR G a2), .int a3, .int a4]) (QI G res.1 res.2) 0 0 (Ab G) := by
  refine Met.ofW (cc := cX1_holds) (maxL := 8) (ret := (some .boolean)) (by decide) rfl ?_
  intro p e s m args below meth c s₁ B hml hv
  obtain ⟨rfl, hK, hP⟩ := hv
  have C : Cx p s m _ meth c cX1_holds 8 RX1 G := ⟨⟨B.exec, B.bytes, hml, findClass_of_methodNamed B.named, fun w hw => atoms_spec (ws := wm yX1_holds cX1_holds 8 (some .boolean)) B.pre w (List.mem_cons_of_mem _ hw)⟩, B.notSynchronized, hK⟩
  have hl := lv_entry ([.ref (gR G 137), .ref (gR G a1), .ref (gR G a2), .int a3, .int a4]) (n := 8) (Nat.le_of_ble_eq_true rfl)
  rw [lg_entry_eq]
  generalize (lg_sl ([.ref (gR G 137), .ref (gR G a1), .ref (gR G a2), .int a3, .int a4]) ++ List.replicate (8 - (lg_sl ([.ref (gR G 137), .ref (gR G a1), .ref (gR G a2), .int a3, .int a4])).length) Slot.unset).toArray = ls at hl ⊢
  exact sfX1_holds C B.returns k1 k2 ⟨hP, va_S.rf⟩ hl h
def BX1_explore_116 (r28 : Nat → Nat → Int32 → St → Option St) (r39 : Nat → Nat → Int32 → Int32 → St → Option St) (r65 : Nat → Nat → Int32 → Int32 → Int32 → Int32 → St → Option St) (l1 : Nat) (l2 : Nat) (l3 : Int32) (l4 : Int32) (l5 : Int32) (l6 : Int32) (S : St) : Option St :=
  vl (l6 + 1) fun x1 => (r65 l1 l2 l3 l4 l5 x1 S)
set_option maxHeartbeats 4000000 in
set_option maxRecDepth 20000 in
theorem sBX1_explore_116 (C : Cx p s m args meth c cX1_explore 7 RX1 G) (hr : meth.sig.returnType = none) {r28 : Nat → Nat → Int32 → St → Option St} {r39 : Nat → Nat → Int32 → Int32 → St → Option St} {r65 : Nat → Nat → Int32 → Int32 → Int32 → Int32 → St → Option St} (hr28 : ∀ (l1 : Nat) (l2 : Nat) (l3 : Int32) (S : St) (res : St) (H : Heap) (locs : List Loc) (ls : Array Slot), kd l1 = 8 → kd l2 = 4 → Dy G S s H locs → lv_has ls 7 [(0, .ref (gR G 137)), (1, .ref (gR G l1)), (2, .ref (gR G l2)), (3, .int l3)] → r28 l1 l2 l3 S = some res → W p l e (rmL 8 0 0) s m args below meth c H locs 0 0 (MQ below (QV G res) args s 0 0 (Ab G)) (F0 m 28 ls [])) (hr39 : ∀ (l1 : Nat) (l2 : Nat) (l3 : Int32) (l4 : Int32) (S : St) (res : St) (H : Heap) (locs : List Loc) (ls : Array Slot), kd l1 = 8 → kd l2 = 4 → Dy G S s H locs → lv_has ls 7 [(0, .ref (gR G 137)), (1, .ref (gR G l1)), (2, .ref (gR G l2)), (3, .int l3), (4, .int l4)] → r39 l1 l2 l3 l4 S = some res → W p l e (rmL 8 0 0) s m args below meth c H locs 0 0 (MQ below (QV G res) args s 0 0 (Ab G)) (F0 m 39 ls [])) (hr65 : ∀ (l1 : Nat) (l2 : Nat) (l3 : Int32) (l4 : Int32) (l5 : Int32) (l6 : Int32) (S : St) (res : St) (H : Heap) (locs : List Loc) (ls : Array Slot), kd l1 = 8 → kd l2 = 4 → Dy G S s H locs → lv_has ls 7 [(0, .ref (gR G 137)), (1, .ref (gR G l1)), (2, .ref (gR G l2)), (3, .int l3), (4, .int l4), (5, .int l5), (6, .int l6)] → r65 l1 l2 l3 l4 l5 l6 S = some res → W p l e (rmL 8 0 0) s m args below meth c H locs 0 0 (MQ below (QV G res) args s 0 0 (Ab G)) (F0 m 65 ls [])) {l1 : Nat} {l2 : Nat} {l3 : Int32} {l4 : Int32} {l5 : Int32} {l6 : Int32} {S : St} {res : St} {H : Heap} {locs : List Loc} {ls : Array Slot} (kl1 : kd l1 = 8) (kl2 : kd l2 = 4) (hd : Dy G S s H locs) (hl : lv_has ls 7 [(0, .ref (gR G 137)), (1, .ref (gR G l1)), (2, .ref (gR G l2)), (3, .int l3), (4, .int l4), (5, .int l5), (6, .int l6)]) (h : BX1_explore_116 r28 r39 r65 l1 l2 l3 l4 l5 l6 S = some res) : W p l e (rmL 8 0 0) s m args below meth c H locs 0 0 (MQ below (QV G res) args s 0 0 (Ab G)) (F0 m 116 ls []) := by
  unfold BX1_explore_116 at h
  have hx := C.1.1
  have hb := C.1.2.1
  refine R_vi h (fun x1 ex1 h => ?_)
  refine lv_iinc (v := x1) (lv' := [(6, .int x1), (0, .ref (gR G 137)), (1, .ref (gR G l1)), (2, .ref (gR G l2)), (3, .int l3), (4, .int l4), (5, .int l5)]) hx hb dX1_explore_116 hl (k := 6) rfl (by rw [ex1]; rfl) (by decide) rfl (fun ls hl => ?_)
  refine lv_goto (tgt := 65) hx hb dX1_explore_119 (by decide) ?_
  exact hr65 l1 l2 l3 l4 l5 x1 _ _ _ _ _ kl1 kl2 hd (lv_sub hl [1, 2, 3, 4, 5, 6, 0] rfl) h
def KX1_explore_65 (r28 : Nat → Nat → Int32 → St → Option St) (r39 : Nat → Nat → Int32 → Int32 → St → Option St) (r65 : Nat → Nat → Int32 → Int32 → Int32 → Int32 → St → Option St) (l1 : Nat) (l2 : Nat) (l3 : Int32) (l4 : Int32) (l5 : Int32) (l6 : Int32) (S : St) : Option St :=
  (if (S 137 5) ≤ l6 then vl (l4 + 1) fun x2 => (r39 l1 l2 l3 x2 S) else rd S (sr l2 0) l5 fun x4 => (if l6 = x4 then (BX1_explore_116 r28 r39 r65 l1 l2 l3 l4 l5 l6 S) else bd (fX1_holds l1 l2 l5 l6 S) fun x6 S => (if x6 = 0 then (BX1_explore_116 r28 r39 r65 l1 l2 l3 l4 l5 l6 S) else bv (fX1_addFound (((l3 * 100) + (l4 * 10)) + l6) S) fun S => (BX1_explore_116 r28 r39 r65 l1 l2 l3 l4 l5 l6 S))))
set_option maxHeartbeats 4000000 in
set_option maxRecDepth 20000 in
theorem sKX1_explore_65 (C : Cx p s m args meth c cX1_explore 7 RX1 G) (hr : meth.sig.returnType = none) {r28 : Nat → Nat → Int32 → St → Option St} {r39 : Nat → Nat → Int32 → Int32 → St → Option St} {r65 : Nat → Nat → Int32 → Int32 → Int32 → Int32 → St → Option St} (hr28 : ∀ (l1 : Nat) (l2 : Nat) (l3 : Int32) (S : St) (res : St) (H : Heap) (locs : List Loc) (ls : Array Slot), kd l1 = 8 → kd l2 = 4 → Dy G S s H locs → lv_has ls 7 [(0, .ref (gR G 137)), (1, .ref (gR G l1)), (2, .ref (gR G l2)), (3, .int l3)] → r28 l1 l2 l3 S = some res → W p l e (rmL 8 0 0) s m args below meth c H locs 0 0 (MQ below (QV G res) args s 0 0 (Ab G)) (F0 m 28 ls [])) (hr39 : ∀ (l1 : Nat) (l2 : Nat) (l3 : Int32) (l4 : Int32) (S : St) (res : St) (H : Heap) (locs : List Loc) (ls : Array Slot), kd l1 = 8 → kd l2 = 4 → Dy G S s H locs → lv_has ls 7 [(0, .ref (gR G 137)), (1, .ref (gR G l1)), (2, .ref (gR G l2)), (3, .int l3), (4, .int l4)] → r39 l1 l2 l3 l4 S = some res → W p l e (rmL 8 0 0) s m args below meth c H locs 0 0 (MQ below (QV G res) args s 0 0 (Ab G)) (F0 m 39 ls [])) (hr65 : ∀ (l1 : Nat) (l2 : Nat) (l3 : Int32) (l4 : Int32) (l5 : Int32) (l6 : Int32) (S : St) (res : St) (H : Heap) (locs : List Loc) (ls : Array Slot), kd l1 = 8 → kd l2 = 4 → Dy G S s H locs → lv_has ls 7 [(0, .ref (gR G 137)), (1, .ref (gR G l1)), (2, .ref (gR G l2)), (3, .int l3), (4, .int l4), (5, .int l5), (6, .int l6)] → r65 l1 l2 l3 l4 l5 l6 S = some res → W p l e (rmL 8 0 0) s m args below meth c H locs 0 0 (MQ below (QV G res) args s 0 0 (Ab G)) (F0 m 65 ls [])) {l1 : Nat} {l2 : Nat} {l3 : Int32} {l4 : Int32} {l5 : Int32} {l6 : Int32} {S : St} {res : St} {H : Heap} {locs : List Loc} {ls : Array Slot} (kl1 : kd l1 = 8) (kl2 : kd l2 = 4) (hd : Dy G S s H locs) (hl : lv_has ls 7 [(0, .ref (gR G 137)), (1, .ref (gR G l1)), (2, .ref (gR G l2)), (3, .int l3), (4, .int l4), (5, .int l5), (6, .int l6)]) (h : KX1_explore_65 r28 r39 r65 l1 l2 l3 l4 l5 l6 S = some res) : W p l e (rmL 8 0 0) s m args below meth c H locs 0 0 (MQ below (QV G res) args s 0 0 (Ab G)) (F0 m 65 ls []) := by
  unfold KX1_explore_65 at h
  have hx := C.1.1
  have hb := C.1.2.1
  refine lv_iload hx hb dX1_explore_65 (lv_at hl 6 rfl) ?_
  refine lv_aload_n hx hb dX1_explore_67 rfl (lv_at hl 0 rfl) ?_
  refine gX1_34 C hd (rfl : kd 137 = 1) dX1_explore_68 ?_
  refine lv_icmp_ge (tgt := 122) hx hb dX1_explore_71 (by decide) (fun c1 => ?_) (fun c1 => ?_)
  · rw [if_pos c1] at h
    refine R_vi h (fun x2 ex2 h => ?_)
    refine lv_iinc (v := x2) (lv' := [(4, .int x2), (0, .ref (gR G 137)), (1, .ref (gR G l1)), (2, .ref (gR G l2)), (3, .int l3), (5, .int l5), (6, .int l6)]) hx hb dX1_explore_122 hl (k := 4) rfl (by rw [ex2]; rfl) (by decide) rfl (fun ls hl => ?_)
    refine lv_goto (tgt := 39) hx hb dX1_explore_125 (by decide) ?_
    exact hr39 l1 l2 l3 x2 _ _ _ _ _ kl1 kl2 hd (lv_sub hl [1, 2, 3, 4, 0] rfl) h
  · rw [if_neg c1] at h
    refine lv_iload hx hb dX1_explore_74 (lv_at hl 6 rfl) ?_
    refine lv_aload_n hx hb dX1_explore_76 rfl (lv_at hl 2 rfl) ?_
    refine gX1_47 C hd kl2 (q := sr l2 0) rfl dX1_explore_77 (fun y3 => ?_)
    refine lv_iload hx hb dX1_explore_80 (lv_at hl 5 rfl) ?_
    refine R_iald C hd y3 h dX1_explore_82 (fun x4 h => ?_)
    refine lv_icmp_eq (tgt := 116) hx hb dX1_explore_83 (by decide) (fun c5 => ?_) (fun c5 => ?_)
    · rw [if_pos c5] at h
      exact sBX1_explore_116 C hr hr28 hr39 hr65 kl1 kl2 hd (lv_sub hl [0, 1, 2, 3, 4, 5, 6] rfl) h
    · rw [if_neg c5] at h
      refine lv_aload_n hx hb dX1_explore_86 rfl (lv_at hl 0 rfl) ?_
      refine lv_aload_n hx hb dX1_explore_87 rfl (lv_at hl 1 rfl) ?_
      refine lv_aload_n hx hb dX1_explore_88 rfl (lv_at hl 2 rfl) ?_
      refine lv_iload hx hb dX1_explore_89 (lv_at hl 5 rfl) ?_
      refine lv_iload hx hb dX1_explore_91 (lv_at hl 6 rfl) ?_
      obtain ⟨x6, S1, hc, h⟩ := bd_some h
      refine R_cVi C hd (ccX1_holds l G kl1 kl2 hc) kX1_52 rfl (by decide) (rfl : kd 137 = 1) hl.1 ⟨by decide, by decide⟩ rfl rfl (Nat.le_of_ble_eq_true rfl) dX1_explore_93 ⟨Nat.zero_le _, Nat.zero_le _⟩ (fun H locs hd => ?_)
      generalize S1 = S at h hd
      refine lv_if_eq (tgt := 116) hx hb dX1_explore_96 (by decide) (fun c7 => ?_) (fun c7 => ?_)
      · rw [if_pos c7] at h
        exact sBX1_explore_116 C hr hr28 hr39 hr65 kl1 kl2 hd (lv_sub hl [0, 1, 2, 3, 4, 5, 6] rfl) h
      · rw [if_neg c7] at h
        refine lv_aload_n hx hb dX1_explore_99 rfl (lv_at hl 0 rfl) ?_
        refine lv_iload_n hx hb dX1_explore_100 rfl (lv_at hl 3 rfl) ?_
        refine lv_bipush (v := 100) hx hb dX1_explore_101 (by decide) ?_
        refine lv_imul hx hb dX1_explore_103 ?_
        refine lv_iload hx hb dX1_explore_104 (lv_at hl 4 rfl) ?_
        refine lv_bipush (v := 10) hx hb dX1_explore_106 (by decide) ?_
        refine lv_imul hx hb dX1_explore_108 ?_
        refine lv_iadd hx hb dX1_explore_109 ?_
        refine lv_iload hx hb dX1_explore_110 (lv_at hl 6 rfl) ?_
        refine lv_iadd hx hb dX1_explore_112 ?_
        obtain ⟨S1, hc, h⟩ := bv_some h
        refine R_cVv C hd (ccX1_addFound l G  hc) kX1_56 rfl (by decide) (rfl : kd 137 = 1) hl.1 ⟨by decide, by decide⟩ rfl rfl (Nat.le_of_ble_eq_true rfl) dX1_explore_113 ⟨Nat.zero_le _, Nat.zero_le _⟩ (fun H locs hd => ?_)
        generalize S1 = S at h hd
        exact sBX1_explore_116 C hr hr28 hr39 hr65 kl1 kl2 hd (lv_sub hl [0, 1, 2, 3, 4, 5, 6] rfl) h
def LX1_explore_65 (r28 : Nat → Nat → Int32 → St → Option St) (r39 : Nat → Nat → Int32 → Int32 → St → Option St) : Nat → Nat → Nat → Int32 → Int32 → Int32 → Int32 → St → Option St
  | 0 => fun _ _ _ _ _ _ _ => none
  | n + 1 => fun l1 l2 l3 l4 l5 l6 S => KX1_explore_65 r28 r39 (LX1_explore_65 r28 r39 n) l1 l2 l3 l4 l5 l6 S
theorem sLX1_explore_65 (C : Cx p s m args meth c cX1_explore 7 RX1 G) (hr : meth.sig.returnType = none) {r28 : Nat → Nat → Int32 → St → Option St} {r39 : Nat → Nat → Int32 → Int32 → St → Option St} (hr28 : ∀ (l1 : Nat) (l2 : Nat) (l3 : Int32) (S : St) (res : St) (H : Heap) (locs : List Loc) (ls : Array Slot), kd l1 = 8 → kd l2 = 4 → Dy G S s H locs → lv_has ls 7 [(0, .ref (gR G 137)), (1, .ref (gR G l1)), (2, .ref (gR G l2)), (3, .int l3)] → r28 l1 l2 l3 S = some res → W p l e (rmL 8 0 0) s m args below meth c H locs 0 0 (MQ below (QV G res) args s 0 0 (Ab G)) (F0 m 28 ls [])) (hr39 : ∀ (l1 : Nat) (l2 : Nat) (l3 : Int32) (l4 : Int32) (S : St) (res : St) (H : Heap) (locs : List Loc) (ls : Array Slot), kd l1 = 8 → kd l2 = 4 → Dy G S s H locs → lv_has ls 7 [(0, .ref (gR G 137)), (1, .ref (gR G l1)), (2, .ref (gR G l2)), (3, .int l3), (4, .int l4)] → r39 l1 l2 l3 l4 S = some res → W p l e (rmL 8 0 0) s m args below meth c H locs 0 0 (MQ below (QV G res) args s 0 0 (Ab G)) (F0 m 39 ls [])) : ∀ (n : Nat) (l1 : Nat) (l2 : Nat) (l3 : Int32) (l4 : Int32) (l5 : Int32) (l6 : Int32) (S : St) (res : St) (H : Heap) (locs : List Loc) (ls : Array Slot), kd l1 = 8 → kd l2 = 4 → Dy G S s H locs → lv_has ls 7 [(0, .ref (gR G 137)), (1, .ref (gR G l1)), (2, .ref (gR G l2)), (3, .int l3), (4, .int l4), (5, .int l5), (6, .int l6)] → LX1_explore_65 r28 r39 n l1 l2 l3 l4 l5 l6 S = some res → W p l e (rmL 8 0 0) s m args below meth c H locs 0 0 (MQ below (QV G res) args s 0 0 (Ab G)) (F0 m 65 ls []) := by
  intro n
  induction n with
  | zero => intro l1 l2 l3 l4 l5 l6 S res H locs ls kl1 kl2 hd hl h; cases h
  | succ n ih =>
    intro l1 l2 l3 l4 l5 l6 S res H locs ls kl1 kl2 hd hl h
    exact sKX1_explore_65 C hr hr28 hr39 ih kl1 kl2 hd hl h
def KX1_explore_39 (r28 : Nat → Nat → Int32 → St → Option St) (r39 : Nat → Nat → Int32 → Int32 → St → Option St) (l1 : Nat) (l2 : Nat) (l3 : Int32) (l4 : Int32) (S : St) : Option St :=
  rd S (sr l1 8) l3 fun x2 => (if x2 ≤ l4 then vl (l3 + 1) fun x4 => (r28 l1 l2 x4 S) else vl ((62 + (l3 * 6)) + l4) fun x5 => (LX1_explore_65 r28 r39 FU l1 l2 l3 l4 x5 0 S))
set_option maxHeartbeats 4000000 in
set_option maxRecDepth 20000 in
theorem sKX1_explore_39 (C : Cx p s m args meth c cX1_explore 7 RX1 G) (hr : meth.sig.returnType = none) {r28 : Nat → Nat → Int32 → St → Option St} {r39 : Nat → Nat → Int32 → Int32 → St → Option St} (hr28 : ∀ (l1 : Nat) (l2 : Nat) (l3 : Int32) (S : St) (res : St) (H : Heap) (locs : List Loc) (ls : Array Slot), kd l1 = 8 → kd l2 = 4 → Dy G S s H locs → lv_has ls 7 [(0, .ref (gR G 137)), (1, .ref (gR G l1)), (2, .ref (gR G l2)), (3, .int l3)] → r28 l1 l2 l3 S = some res → W p l e (rmL 8 0 0) s m args below meth c H locs 0 0 (MQ below (QV G res) args s 0 0 (Ab G)) (F0 m 28 ls [])) (hr39 : ∀ (l1 : Nat) (l2 : Nat) (l3 : Int32) (l4 : Int32) (S : St) (res : St) (H : Heap) (locs : List Loc) (ls : Array Slot), kd l1 = 8 → kd l2 = 4 → Dy G S s H locs → lv_has ls 7 [(0, .ref (gR G 137)), (1, .ref (gR G l1)), (2, .ref (gR G l2)), (3, .int l3), (4, .int l4)] → r39 l1 l2 l3 l4 S = some res → W p l e (rmL 8 0 0) s m args below meth c H locs 0 0 (MQ below (QV G res) args s 0 0 (Ab G)) (F0 m 39 ls [])) {l1 : Nat} {l2 : Nat} {l3 : Int32} {l4 : Int32} {S : St} {res : St} {H : Heap} {locs : List Loc} {ls : Array Slot} (kl1 : kd l1 = 8) (kl2 : kd l2 = 4) (hd : Dy G S s H locs) (hl : lv_has ls 7 [(0, .ref (gR G 137)), (1, .ref (gR G l1)), (2, .ref (gR G l2)), (3, .int l3), (4, .int l4)]) (h : KX1_explore_39 r28 r39 l1 l2 l3 l4 S = some res) : W p l e (rmL 8 0 0) s m args below meth c H locs 0 0 (MQ below (QV G res) args s 0 0 (Ab G)) (F0 m 39 ls []) := by
  unfold KX1_explore_39 at h
  have hx := C.1.1
  have hb := C.1.2.1
  refine lv_iload hx hb dX1_explore_39 (lv_at hl 4 rfl) ?_
  refine lv_aload_n hx hb dX1_explore_41 rfl (lv_at hl 1 rfl) ?_
  refine gX1_44 C hd kl1 (q := sr l1 8) rfl dX1_explore_42 (fun y1 => ?_)
  refine lv_iload_n hx hb dX1_explore_45 rfl (lv_at hl 3 rfl) ?_
  refine R_iald C hd y1 h dX1_explore_46 (fun x2 h => ?_)
  refine lv_icmp_ge (tgt := 128) hx hb dX1_explore_47 (by decide) (fun c3 => ?_) (fun c3 => ?_)
  · rw [if_pos c3] at h
    refine R_vi h (fun x4 ex4 h => ?_)
    refine lv_iinc (v := x4) (lv' := [(3, .int x4), (0, .ref (gR G 137)), (1, .ref (gR G l1)), (2, .ref (gR G l2)), (4, .int l4)]) hx hb dX1_explore_128 hl (k := 3) rfl (by rw [ex4]; rfl) (by decide) rfl (fun ls hl => ?_)
    refine lv_goto (tgt := 28) hx hb dX1_explore_131 (by decide) ?_
    exact hr28 l1 l2 x4 _ _ _ _ _ kl1 kl2 hd (lv_sub hl [1, 2, 3, 0] rfl) h
  · rw [if_neg c3] at h
    refine lv_bipush (v := 62) hx hb dX1_explore_50 (by decide) ?_
    refine lv_iload_n hx hb dX1_explore_52 rfl (lv_at hl 3 rfl) ?_
    refine lv_bipush (v := 6) hx hb dX1_explore_53 (by decide) ?_
    refine lv_imul hx hb dX1_explore_55 ?_
    refine lv_iadd hx hb dX1_explore_56 ?_
    refine lv_iload hx hb dX1_explore_57 (lv_at hl 4 rfl) ?_
    refine lv_iadd hx hb dX1_explore_59 ?_
    refine R_vl h (fun x5 h => ?_)
    refine lv_istore (lv' := [(5, .int x5), (0, .ref (gR G 137)), (1, .ref (gR G l1)), (2, .ref (gR G l2)), (3, .int l3), (4, .int l4)]) hx hb dX1_explore_60 hl (by decide) rfl (fun ls hl => ?_)
    refine lv_iconst (v := 0) hx hb dX1_explore_62 (by decide) ?_
    refine lv_istore (lv' := [(6, .int 0), (5, .int x5), (0, .ref (gR G 137)), (1, .ref (gR G l1)), (2, .ref (gR G l2)), (3, .int l3), (4, .int l4)]) hx hb dX1_explore_63 hl (by decide) rfl (fun ls hl => ?_)
    exact sLX1_explore_65 C hr hr28 hr39 _ l1 l2 l3 l4 x5 0 _ _ _ _ _ kl1 kl2 hd (lv_sub hl [2, 3, 4, 5, 6, 1, 0] rfl) h
def LX1_explore_39 (r28 : Nat → Nat → Int32 → St → Option St) : Nat → Nat → Nat → Int32 → Int32 → St → Option St
  | 0 => fun _ _ _ _ _ => none
  | n + 1 => fun l1 l2 l3 l4 S => KX1_explore_39 r28 (LX1_explore_39 r28 n) l1 l2 l3 l4 S
theorem sLX1_explore_39 (C : Cx p s m args meth c cX1_explore 7 RX1 G) (hr : meth.sig.returnType = none) {r28 : Nat → Nat → Int32 → St → Option St} (hr28 : ∀ (l1 : Nat) (l2 : Nat) (l3 : Int32) (S : St) (res : St) (H : Heap) (locs : List Loc) (ls : Array Slot), kd l1 = 8 → kd l2 = 4 → Dy G S s H locs → lv_has ls 7 [(0, .ref (gR G 137)), (1, .ref (gR G l1)), (2, .ref (gR G l2)), (3, .int l3)] → r28 l1 l2 l3 S = some res → W p l e (rmL 8 0 0) s m args below meth c H locs 0 0 (MQ below (QV G res) args s 0 0 (Ab G)) (F0 m 28 ls [])) : ∀ (n : Nat) (l1 : Nat) (l2 : Nat) (l3 : Int32) (l4 : Int32) (S : St) (res : St) (H : Heap) (locs : List Loc) (ls : Array Slot), kd l1 = 8 → kd l2 = 4 → Dy G S s H locs → lv_has ls 7 [(0, .ref (gR G 137)), (1, .ref (gR G l1)), (2, .ref (gR G l2)), (3, .int l3), (4, .int l4)] → LX1_explore_39 r28 n l1 l2 l3 l4 S = some res → W p l e (rmL 8 0 0) s m args below meth c H locs 0 0 (MQ below (QV G res) args s 0 0 (Ab G)) (F0 m 39 ls []) := by
  intro n
  induction n with
  | zero => intro l1 l2 l3 l4 S res H locs ls kl1 kl2 hd hl h; cases h
  | succ n ih =>
    intro l1 l2 l3 l4 S res H locs ls kl1 kl2 hd hl h
    exact sKX1_explore_39 C hr hr28 ih kl1 kl2 hd hl h
def KX1_explore_28 (r28 : Nat → Nat → Int32 → St → Option St) (l1 : Nat) (l2 : Nat) (l3 : Int32) (S : St) : Option St :=
  (if (S l1 2) ≤ l3 then some S else (LX1_explore_39 r28 FU l1 l2 l3 0 S))
set_option maxHeartbeats 4000000 in
set_option maxRecDepth 20000 in
theorem sKX1_explore_28 (C : Cx p s m args meth c cX1_explore 7 RX1 G) (hr : meth.sig.returnType = none) {r28 : Nat → Nat → Int32 → St → Option St} (hr28 : ∀ (l1 : Nat) (l2 : Nat) (l3 : Int32) (S : St) (res : St) (H : Heap) (locs : List Loc) (ls : Array Slot), kd l1 = 8 → kd l2 = 4 → Dy G S s H locs → lv_has ls 7 [(0, .ref (gR G 137)), (1, .ref (gR G l1)), (2, .ref (gR G l2)), (3, .int l3)] → r28 l1 l2 l3 S = some res → W p l e (rmL 8 0 0) s m args below meth c H locs 0 0 (MQ below (QV G res) args s 0 0 (Ab G)) (F0 m 28 ls [])) {l1 : Nat} {l2 : Nat} {l3 : Int32} {S : St} {res : St} {H : Heap} {locs : List Loc} {ls : Array Slot} (kl1 : kd l1 = 8) (kl2 : kd l2 = 4) (hd : Dy G S s H locs) (hl : lv_has ls 7 [(0, .ref (gR G 137)), (1, .ref (gR G l1)), (2, .ref (gR G l2)), (3, .int l3)]) (h : KX1_explore_28 r28 l1 l2 l3 S = some res) : W p l e (rmL 8 0 0) s m args below meth c H locs 0 0 (MQ below (QV G res) args s 0 0 (Ab G)) (F0 m 28 ls []) := by
  unfold KX1_explore_28 at h
  have hx := C.1.1
  have hb := C.1.2.1
  refine lv_iload_n hx hb dX1_explore_28 rfl (lv_at hl 3 rfl) ?_
  refine lv_aload_n hx hb dX1_explore_29 rfl (lv_at hl 1 rfl) ?_
  refine gX1_41 C hd kl1 dX1_explore_30 ?_
  refine lv_icmp_ge (tgt := 134) hx hb dX1_explore_33 (by decide) (fun c1 => ?_) (fun c1 => ?_)
  · rw [if_pos c1] at h
    exact R_vret C hr hd h dX1_explore_134
  · rw [if_neg c1] at h
    refine lv_iconst (v := 0) hx hb dX1_explore_36 (by decide) ?_
    refine lv_istore (lv' := [(4, .int 0), (0, .ref (gR G 137)), (1, .ref (gR G l1)), (2, .ref (gR G l2)), (3, .int l3)]) hx hb dX1_explore_37 hl (by decide) rfl (fun ls hl => ?_)
    exact sLX1_explore_39 C hr hr28 _ l1 l2 l3 0 _ _ _ _ _ kl1 kl2 hd (lv_sub hl [1, 2, 3, 4, 0] rfl) h
def LX1_explore_28 : Nat → Nat → Nat → Int32 → St → Option St
  | 0 => fun _ _ _ _ => none
  | n + 1 => fun l1 l2 l3 S => KX1_explore_28 (LX1_explore_28 n) l1 l2 l3 S
theorem sLX1_explore_28 (C : Cx p s m args meth c cX1_explore 7 RX1 G) (hr : meth.sig.returnType = none) : ∀ (n : Nat) (l1 : Nat) (l2 : Nat) (l3 : Int32) (S : St) (res : St) (H : Heap) (locs : List Loc) (ls : Array Slot), kd l1 = 8 → kd l2 = 4 → Dy G S s H locs → lv_has ls 7 [(0, .ref (gR G 137)), (1, .ref (gR G l1)), (2, .ref (gR G l2)), (3, .int l3)] → LX1_explore_28 n l1 l2 l3 S = some res → W p l e (rmL 8 0 0) s m args below meth c H locs 0 0 (MQ below (QV G res) args s 0 0 (Ab G)) (F0 m 28 ls []) := by
  intro n
  induction n with
  | zero => intro l1 l2 l3 S res H locs ls kl1 kl2 hd hl h; cases h
  | succ n ih =>
    intro l1 l2 l3 S res H locs ls kl1 kl2 hd hl h
    exact sKX1_explore_28 C hr ih kl1 kl2 hd hl h
def fX1_explore (a1 : Nat) (a2 : Nat) (S : St) : Option St :=
  pf S 137 1 0 fun S => pf S 137 2 ((-1)) fun S => pf S 137 5 (S a1 0) fun S => bv (fJ7_fill_53178 138 0 S) fun S => (LX1_explore_28 FU a1 a2 0 S)
set_option maxHeartbeats 4000000 in
set_option maxRecDepth 20000 in
theorem sfX1_explore (C : Cx p s m args meth c cX1_explore 7 RX1 G) (hr : meth.sig.returnType = none) {a1 : Nat} {a2 : Nat} {S : St} {res : St} {H : Heap} {locs : List Loc} {ls : Array Slot} (k1 : kd a1 = 8) (k2 : kd a2 = 4) (hd : Dy G S s H locs) (hl : lv_has ls 7 [(0, .ref (gR G 137)), (1, .ref (gR G a1)), (2, .ref (gR G a2))]) (h : fX1_explore a1 a2 S = some res) : W p l e (rmL 8 0 0) s m args below meth c H locs 0 0 (MQ below (QV G res) args s 0 0 (Ab G)) (F0 m 0 ls []) := by
  unfold fX1_explore at h
  have hx := C.1.1
  have hb := C.1.2.1
  refine lv_aload_n hx hb dX1_explore_0 rfl (lv_at hl 0 rfl) ?_
  refine lv_iconst (v := 0) hx hb dX1_explore_1 (by decide) ?_
  refine pX1_22 C hd (rfl : kd 137 = 1) h dX1_explore_2 (fun S H locs hd h => ?_)
  refine lv_aload_n hx hb dX1_explore_5 rfl (lv_at hl 0 rfl) ?_
  refine lv_iconst (v := -1) hx hb dX1_explore_6 (by decide) ?_
  refine pX1_26 C hd (rfl : kd 137 = 1) h dX1_explore_7 (fun S H locs hd h => ?_)
  refine lv_aload_n hx hb dX1_explore_10 rfl (lv_at hl 0 rfl) ?_
  refine lv_aload_n hx hb dX1_explore_11 rfl (lv_at hl 1 rfl) ?_
  refine gX1_29 C hd k1 dX1_explore_12 ?_
  refine pX1_34 C hd (rfl : kd 137 = 1) h dX1_explore_15 (fun S H locs hd h => ?_)
  refine lv_aload_n hx hb dX1_explore_18 rfl (lv_at hl 0 rfl) ?_
  refine gX1_9 C hd (rfl : kd 137 = 1) (q := 138) rfl dX1_explore_19 (fun y1 => ?_)
  refine lv_iconst (v := 0) hx hb dX1_explore_22 (by decide) ?_
  obtain ⟨S1, hc, h⟩ := bv_some h
  refine R_cSv C hd (ccJ7_fill_53178 l G y1 hc) kX1_35  hl.1 ⟨by decide, by decide⟩ rfl rfl (Nat.le_of_ble_eq_true rfl) dX1_explore_23 ⟨Nat.zero_le _, Nat.zero_le _⟩ (fun H locs hd => ?_)
  generalize S1 = S at h hd
  refine lv_iconst (v := 0) hx hb dX1_explore_26 (by decide) ?_
  refine lv_istore_n (lv' := [(3, .int 0), (0, .ref (gR G 137)), (1, .ref (gR G a1)), (2, .ref (gR G a2))]) hx hb dX1_explore_27 rfl hl (by decide) rfl (fun ls hl => ?_)
  exact sLX1_explore_28 C hr _ a1 a2 0 _ _ _ _ _ k1 k2 hd (lv_sub hl [1, 2, 3, 0] rfl) h
set_option maxRecDepth 20000 in
theorem ccX1_explore (l : Launch) (G : Gt) {a1 : Nat} {a2 : Nat} {S : St} {res : St} (k1 : kd a1 = 8) (k2 : kd a2 = 4) (h : fX1_explore a1 a2 S = some res) : Met l yX1_explore (wm yX1_explore cX1_explore 7 (none)) (rmL 8 0 0) (PcW G S [.ref (gR G 137), .ref (gR G a1), .ref (gR G a2)]) (QV G res) 0 0 (Ab G) := by
  refine Met.ofW (cc := cX1_explore) (maxL := 7) (ret := none) (by decide) rfl ?_
  intro p e s m args below meth c s₁ B hml hv
  obtain ⟨rfl, hK, hP⟩ := hv
  have C : Cx p s m _ meth c cX1_explore 7 RX1 G := ⟨⟨B.exec, B.bytes, hml, findClass_of_methodNamed B.named, fun w hw => atoms_spec (ws := wm yX1_explore cX1_explore 7 (none)) B.pre w (List.mem_cons_of_mem _ hw)⟩, B.notSynchronized, hK⟩
  have hl := lv_entry ([.ref (gR G 137), .ref (gR G a1), .ref (gR G a2)]) (n := 7) (Nat.le_of_ble_eq_true rfl)
  rw [lg_entry_eq]
  generalize (lg_sl ([.ref (gR G 137), .ref (gR G a1), .ref (gR G a2)]) ++ List.replicate (7 - (lg_sl ([.ref (gR G 137), .ref (gR G a1), .ref (gR G a2)])).length) Slot.unset).toArray = ls at hl ⊢
  exact sfX1_explore C B.returns k1 k2 ⟨hP, va_S.rf⟩ hl h
def fX1_holdsAsItIs (a1 : Nat) (a2 : Nat) (S : St) : Option (Int32 × St) :=
  pf S 137 5 (S a1 0) fun S => bd (fX1_holds a1 a2 ((-1)) ((-1)) S) fun x1 S => rz x1 S
set_option maxHeartbeats 4000000 in
set_option maxRecDepth 20000 in
theorem sfX1_holdsAsItIs (C : Cx p s m args meth c cX1_holdsAsItIs 3 RX1 G) (hr : meth.sig.returnType = some .boolean) {a1 : Nat} {a2 : Nat} {S : St} {res : (Int32 × St)} {H : Heap} {locs : List Loc} {ls : Array Slot} (k1 : kd a1 = 8) (k2 : kd a2 = 4) (hd : Dy G S s H locs) (hl : lv_has ls 3 [(0, .ref (gR G 137)), (1, .ref (gR G a1)), (2, .ref (gR G a2))]) (h : fX1_holdsAsItIs a1 a2 S = some res) : W p l e (rmL 8 0 0) s m args below meth c H locs 0 0 (MQ below (QI G res.1 res.2) args s 0 0 (Ab G)) (F0 m 0 ls []) := by
  unfold fX1_holdsAsItIs at h
  have hx := C.1.1
  have hb := C.1.2.1
  refine lv_aload_n hx hb dX1_holdsAsItIs_0 rfl (lv_at hl 0 rfl) ?_
  refine lv_aload_n hx hb dX1_holdsAsItIs_1 rfl (lv_at hl 1 rfl) ?_
  refine gX1_29 C hd k1 dX1_holdsAsItIs_2 ?_
  refine pX1_34 C hd (rfl : kd 137 = 1) h dX1_holdsAsItIs_5 (fun S H locs hd h => ?_)
  refine lv_aload_n hx hb dX1_holdsAsItIs_8 rfl (lv_at hl 0 rfl) ?_
  refine lv_aload_n hx hb dX1_holdsAsItIs_9 rfl (lv_at hl 1 rfl) ?_
  refine lv_aload_n hx hb dX1_holdsAsItIs_10 rfl (lv_at hl 2 rfl) ?_
  refine lv_iconst (v := -1) hx hb dX1_holdsAsItIs_11 (by decide) ?_
  refine lv_iconst (v := -1) hx hb dX1_holdsAsItIs_12 (by decide) ?_
  obtain ⟨x1, S1, hc, h⟩ := bd_some h
  refine R_cVi C hd (ccX1_holds l G k1 k2 hc) kX1_52 rfl (by decide) (rfl : kd 137 = 1) hl.1 ⟨by decide, by decide⟩ rfl rfl (Nat.le_of_ble_eq_true rfl) dX1_holdsAsItIs_13 ⟨Nat.zero_le _, Nat.zero_le _⟩ (fun H locs hd => ?_)
  generalize S1 = S at h hd
  exact R_zret C hr hd h dX1_holdsAsItIs_16
set_option maxRecDepth 20000 in
theorem ccX1_holdsAsItIs (l : Launch) (G : Gt) {a1 : Nat} {a2 : Nat} {S : St} {res : (Int32 × St)} (k1 : kd a1 = 8) (k2 : kd a2 = 4) (h : fX1_holdsAsItIs a1 a2 S = some res) : Met l yX1_holdsAsItIs (wm yX1_holdsAsItIs cX1_holdsAsItIs 3 (some .boolean)) (rmL 8 0 0) (PcW G S [.ref (gR G 137), .ref (gR G a1), .ref (gR G a2)]) (QI G res.1 res.2) 0 0 (Ab G) := by
  refine Met.ofW (cc := cX1_holdsAsItIs) (maxL := 3) (ret := (some .boolean)) (by decide) rfl ?_
  intro p e s m args below meth c s₁ B hml hv
  obtain ⟨rfl, hK, hP⟩ := hv
  have C : Cx p s m _ meth c cX1_holdsAsItIs 3 RX1 G := ⟨⟨B.exec, B.bytes, hml, findClass_of_methodNamed B.named, fun w hw => atoms_spec (ws := wm yX1_holdsAsItIs cX1_holdsAsItIs 3 (some .boolean)) B.pre w (List.mem_cons_of_mem _ hw)⟩, B.notSynchronized, hK⟩
  have hl := lv_entry ([.ref (gR G 137), .ref (gR G a1), .ref (gR G a2)]) (n := 3) (Nat.le_of_ble_eq_true rfl)
  rw [lg_entry_eq]
  generalize (lg_sl ([.ref (gR G 137), .ref (gR G a1), .ref (gR G a2)]) ++ List.replicate (3 - (lg_sl ([.ref (gR G 137), .ref (gR G a1), .ref (gR G a2)])).length) Slot.unset).toArray = ls at hl ⊢
  exact sfX1_holdsAsItIs C B.returns k1 k2 ⟨hP, va_S.rf⟩ hl h
def BX1_mostUnlike_47 (r4 : Int32 → Int32 → St → Option (Int32 × St)) (l1 : Int32) (l2 : Int32) (S : St) : Option (Int32 × St) :=
  vl (l2 + 1) fun x1 => (r4 l1 x1 S)
set_option maxHeartbeats 4000000 in
set_option maxRecDepth 20000 in
theorem sBX1_mostUnlike_47 (C : Cx p s m args meth c cX1_mostUnlike 3 RX1 G) (hr : meth.sig.returnType = some .int) {r4 : Int32 → Int32 → St → Option (Int32 × St)} (hr4 : ∀ (l1 : Int32) (l2 : Int32) (S : St) (res : (Int32 × St)) (H : Heap) (locs : List Loc) (ls : Array Slot), Dy G S s H locs → lv_has ls 3 [(0, .ref (gR G 137)), (1, .int l1), (2, .int l2)] → r4 l1 l2 S = some res → W p l e (rmL 4 0 0) s m args below meth c H locs 0 0 (MQ below (QI G res.1 res.2) args s 0 0 (Ab G)) (F0 m 4 ls [])) {l1 : Int32} {l2 : Int32} {S : St} {res : (Int32 × St)} {H : Heap} {locs : List Loc} {ls : Array Slot}  (hd : Dy G S s H locs) (hl : lv_has ls 3 [(0, .ref (gR G 137)), (1, .int l1), (2, .int l2)]) (h : BX1_mostUnlike_47 r4 l1 l2 S = some res) : W p l e (rmL 4 0 0) s m args below meth c H locs 0 0 (MQ below (QI G res.1 res.2) args s 0 0 (Ab G)) (F0 m 47 ls []) := by
  unfold BX1_mostUnlike_47 at h
  have hx := C.1.1
  have hb := C.1.2.1
  refine R_vi h (fun x1 ex1 h => ?_)
  refine lv_iinc (v := x1) (lv' := [(2, .int x1), (0, .ref (gR G 137)), (1, .int l1)]) hx hb dX1_mostUnlike_47 hl (k := 2) rfl (by rw [ex1]; rfl) (by decide) rfl (fun ls hl => ?_)
  refine lv_goto (tgt := 4) hx hb dX1_mostUnlike_50 (by decide) ?_
  exact hr4 l1 x1 _ _ _ _ _  hd (lv_sub hl [1, 2, 0] rfl) h
def BX1_mostUnlike_45 (r4 : Int32 → Int32 → St → Option (Int32 × St)) (l2 : Int32) (S : St) : Option (Int32 × St) :=
  (BX1_mostUnlike_47 r4 l2 l2 S)
set_option maxHeartbeats 4000000 in
set_option maxRecDepth 20000 in
theorem sBX1_mostUnlike_45 (C : Cx p s m args meth c cX1_mostUnlike 3 RX1 G) (hr : meth.sig.returnType = some .int) {r4 : Int32 → Int32 → St → Option (Int32 × St)} (hr4 : ∀ (l1 : Int32) (l2 : Int32) (S : St) (res : (Int32 × St)) (H : Heap) (locs : List Loc) (ls : Array Slot), Dy G S s H locs → lv_has ls 3 [(0, .ref (gR G 137)), (1, .int l1), (2, .int l2)] → r4 l1 l2 S = some res → W p l e (rmL 4 0 0) s m args below meth c H locs 0 0 (MQ below (QI G res.1 res.2) args s 0 0 (Ab G)) (F0 m 4 ls [])) {l2 : Int32} {S : St} {res : (Int32 × St)} {H : Heap} {locs : List Loc} {ls : Array Slot}  (hd : Dy G S s H locs) (hl : lv_has ls 3 [(0, .ref (gR G 137)), (2, .int l2)]) (h : BX1_mostUnlike_45 r4 l2 S = some res) : W p l e (rmL 4 0 0) s m args below meth c H locs 0 0 (MQ below (QI G res.1 res.2) args s 0 0 (Ab G)) (F0 m 45 ls []) := by
  unfold BX1_mostUnlike_45 at h
  have hx := C.1.1
  have hb := C.1.2.1
  refine lv_iload_n hx hb dX1_mostUnlike_45 rfl (lv_at hl 1 rfl) ?_
  refine lv_istore_n (lv' := [(1, .int l2), (0, .ref (gR G 137)), (2, .int l2)]) hx hb dX1_mostUnlike_46 rfl hl (by decide) rfl (fun ls hl => ?_)
  exact sBX1_mostUnlike_47 C hr hr4  hd (lv_sub hl [1, 0, 2] rfl) h
def KX1_mostUnlike_4 (r4 : Int32 → Int32 → St → Option (Int32 × St)) (l1 : Int32) (l2 : Int32) (S : St) : Option (Int32 × St) :=
  (if (S 137 5) ≤ l2 then ri l1 S else (if (S 137 1) ≤ 0 then ri l1 S else (if l1 = (-1) then (BX1_mostUnlike_45 r4 l2 S) else rd S 138 l2 fun x5 => bd (fJ6_bitCount_0f7a4 x5 S) fun x6 S => rd S 138 l1 fun x8 => bd (fJ6_bitCount_0f7a4 x8 S) fun x9 S => (if x6 ≤ x9 then (BX1_mostUnlike_47 r4 l1 l2 S) else (BX1_mostUnlike_45 r4 l2 S)))))
set_option maxHeartbeats 4000000 in
set_option maxRecDepth 20000 in
theorem sKX1_mostUnlike_4 (C : Cx p s m args meth c cX1_mostUnlike 3 RX1 G) (hr : meth.sig.returnType = some .int) {r4 : Int32 → Int32 → St → Option (Int32 × St)} (hr4 : ∀ (l1 : Int32) (l2 : Int32) (S : St) (res : (Int32 × St)) (H : Heap) (locs : List Loc) (ls : Array Slot), Dy G S s H locs → lv_has ls 3 [(0, .ref (gR G 137)), (1, .int l1), (2, .int l2)] → r4 l1 l2 S = some res → W p l e (rmL 4 0 0) s m args below meth c H locs 0 0 (MQ below (QI G res.1 res.2) args s 0 0 (Ab G)) (F0 m 4 ls [])) {l1 : Int32} {l2 : Int32} {S : St} {res : (Int32 × St)} {H : Heap} {locs : List Loc} {ls : Array Slot}  (hd : Dy G S s H locs) (hl : lv_has ls 3 [(0, .ref (gR G 137)), (1, .int l1), (2, .int l2)]) (h : KX1_mostUnlike_4 r4 l1 l2 S = some res) : W p l e (rmL 4 0 0) s m args below meth c H locs 0 0 (MQ below (QI G res.1 res.2) args s 0 0 (Ab G)) (F0 m 4 ls []) := by
  unfold KX1_mostUnlike_4 at h
  have hx := C.1.1
  have hb := C.1.2.1
  refine lv_iload_n hx hb dX1_mostUnlike_4 rfl (lv_at hl 2 rfl) ?_
  refine lv_aload_n hx hb dX1_mostUnlike_5 rfl (lv_at hl 0 rfl) ?_
  refine gX1_34 C hd (rfl : kd 137 = 1) dX1_mostUnlike_6 ?_
  refine lv_icmp_ge (tgt := 53) hx hb dX1_mostUnlike_9 (by decide) (fun c1 => ?_) (fun c1 => ?_)
  · rw [if_pos c1] at h
    refine lv_iload_n hx hb dX1_mostUnlike_53 rfl (lv_at hl 1 rfl) ?_
    exact R_iret C hr hd h dX1_mostUnlike_54
  · rw [if_neg c1] at h
    refine lv_aload_n hx hb dX1_mostUnlike_12 rfl (lv_at hl 0 rfl) ?_
    refine gX1_22 C hd (rfl : kd 137 = 1) dX1_mostUnlike_13 ?_
    refine lv_if_le (tgt := 53) hx hb dX1_mostUnlike_16 (by decide) (fun c2 => ?_) (fun c2 => ?_)
    · rw [if_pos c2] at h
      refine lv_iload_n hx hb dX1_mostUnlike_53 rfl (lv_at hl 1 rfl) ?_
      exact R_iret C hr hd h dX1_mostUnlike_54
    · rw [if_neg c2] at h
      refine lv_iload_n hx hb dX1_mostUnlike_19 rfl (lv_at hl 1 rfl) ?_
      refine lv_iconst (v := -1) hx hb dX1_mostUnlike_20 (by decide) ?_
      refine lv_icmp_eq (tgt := 45) hx hb dX1_mostUnlike_21 (by decide) (fun c3 => ?_) (fun c3 => ?_)
      · rw [if_pos c3] at h
        exact sBX1_mostUnlike_45 C hr hr4  hd (lv_sub hl [0, 2] rfl) h
      · rw [if_neg c3] at h
        refine lv_aload_n hx hb dX1_mostUnlike_24 rfl (lv_at hl 0 rfl) ?_
        refine gX1_9 C hd (rfl : kd 137 = 1) (q := 138) rfl dX1_mostUnlike_25 (fun y4 => ?_)
        refine lv_iload_n hx hb dX1_mostUnlike_28 rfl (lv_at hl 2 rfl) ?_
        refine R_iald C hd y4 h dX1_mostUnlike_29 (fun x5 h => ?_)
        obtain ⟨x6, S1, hc, h⟩ := bd_some h
        refine R_cSi C hd (ccJ6_bitCount_0f7a4 l G  hc) kX1_100  hl.1 ⟨by decide, by decide⟩ rfl rfl (Nat.le_of_ble_eq_true rfl) dX1_mostUnlike_30 ⟨Nat.zero_le _, Nat.zero_le _⟩ (fun H locs hd => ?_)
        generalize S1 = S at h hd
        refine lv_aload_n hx hb dX1_mostUnlike_33 rfl (lv_at hl 0 rfl) ?_
        refine gX1_9 C hd (rfl : kd 137 = 1) (q := 138) rfl dX1_mostUnlike_34 (fun y7 => ?_)
        refine lv_iload_n hx hb dX1_mostUnlike_37 rfl (lv_at hl 1 rfl) ?_
        refine R_iald C hd y7 h dX1_mostUnlike_38 (fun x8 h => ?_)
        obtain ⟨x9, S1, hc, h⟩ := bd_some h
        refine R_cSi C hd (ccJ6_bitCount_0f7a4 l G  hc) kX1_100  hl.1 ⟨by decide, by decide⟩ rfl rfl (Nat.le_of_ble_eq_true rfl) dX1_mostUnlike_39 ⟨Nat.zero_le _, Nat.zero_le _⟩ (fun H locs hd => ?_)
        generalize S1 = S at h hd
        refine lv_icmp_le (tgt := 47) hx hb dX1_mostUnlike_42 (by decide) (fun c10 => ?_) (fun c10 => ?_)
        · rw [if_pos c10] at h
          exact sBX1_mostUnlike_47 C hr hr4  hd (lv_sub hl [0, 1, 2] rfl) h
        · rw [if_neg c10] at h
          exact sBX1_mostUnlike_45 C hr hr4  hd (lv_sub hl [0, 2] rfl) h
def LX1_mostUnlike_4 : Nat → Int32 → Int32 → St → Option (Int32 × St)
  | 0 => fun _ _ _ => none
  | n + 1 => fun l1 l2 S => KX1_mostUnlike_4 (LX1_mostUnlike_4 n) l1 l2 S
theorem sLX1_mostUnlike_4 (C : Cx p s m args meth c cX1_mostUnlike 3 RX1 G) (hr : meth.sig.returnType = some .int) : ∀ (n : Nat) (l1 : Int32) (l2 : Int32) (S : St) (res : (Int32 × St)) (H : Heap) (locs : List Loc) (ls : Array Slot), Dy G S s H locs → lv_has ls 3 [(0, .ref (gR G 137)), (1, .int l1), (2, .int l2)] → LX1_mostUnlike_4 n l1 l2 S = some res → W p l e (rmL 4 0 0) s m args below meth c H locs 0 0 (MQ below (QI G res.1 res.2) args s 0 0 (Ab G)) (F0 m 4 ls []) := by
  intro n
  induction n with
  | zero => intro l1 l2 S res H locs ls  hd hl h; cases h
  | succ n ih =>
    intro l1 l2 S res H locs ls  hd hl h
    exact sKX1_mostUnlike_4 C hr ih  hd hl h
def fX1_mostUnlike  (S : St) : Option (Int32 × St) :=
  (LX1_mostUnlike_4 FU ((-1)) 0 S)
set_option maxHeartbeats 4000000 in
set_option maxRecDepth 20000 in
theorem sfX1_mostUnlike (C : Cx p s m args meth c cX1_mostUnlike 3 RX1 G) (hr : meth.sig.returnType = some .int)  {S : St} {res : (Int32 × St)} {H : Heap} {locs : List Loc} {ls : Array Slot}  (hd : Dy G S s H locs) (hl : lv_has ls 3 [(0, .ref (gR G 137))]) (h : fX1_mostUnlike  S = some res) : W p l e (rmL 4 0 0) s m args below meth c H locs 0 0 (MQ below (QI G res.1 res.2) args s 0 0 (Ab G)) (F0 m 0 ls []) := by
  unfold fX1_mostUnlike at h
  have hx := C.1.1
  have hb := C.1.2.1
  refine lv_iconst (v := -1) hx hb dX1_mostUnlike_0 (by decide) ?_
  refine lv_istore_n (lv' := [(1, .int ((-1))), (0, .ref (gR G 137))]) hx hb dX1_mostUnlike_1 rfl hl (by decide) rfl (fun ls hl => ?_)
  refine lv_iconst (v := 0) hx hb dX1_mostUnlike_2 (by decide) ?_
  refine lv_istore_n (lv' := [(2, .int 0), (1, .int ((-1))), (0, .ref (gR G 137))]) hx hb dX1_mostUnlike_3 rfl hl (by decide) rfl (fun ls hl => ?_)
  exact sLX1_mostUnlike_4 C hr _ ((-1)) 0 _ _ _ _ _  hd (lv_sub hl [2, 1, 0] rfl) h
set_option maxRecDepth 20000 in
theorem ccX1_mostUnlike (l : Launch) (G : Gt)  {S : St} {res : (Int32 × St)}  (h : fX1_mostUnlike  S = some res) : Met l yX1_mostUnlike (wm yX1_mostUnlike cX1_mostUnlike 3 (some .int)) (rmL 4 0 0) (PcW G S [.ref (gR G 137)]) (QI G res.1 res.2) 0 0 (Ab G) := by
  refine Met.ofW (cc := cX1_mostUnlike) (maxL := 3) (ret := (some .int)) (by decide) rfl ?_
  intro p e s m args below meth c s₁ B hml hv
  obtain ⟨rfl, hK, hP⟩ := hv
  have C : Cx p s m _ meth c cX1_mostUnlike 3 RX1 G := ⟨⟨B.exec, B.bytes, hml, findClass_of_methodNamed B.named, fun w hw => atoms_spec (ws := wm yX1_mostUnlike cX1_mostUnlike 3 (some .int)) B.pre w (List.mem_cons_of_mem _ hw)⟩, B.notSynchronized, hK⟩
  have hl := lv_entry ([.ref (gR G 137)]) (n := 3) (Nat.le_of_ble_eq_true rfl)
  rw [lg_entry_eq]
  generalize (lg_sl ([.ref (gR G 137)]) ++ List.replicate (3 - (lg_sl ([.ref (gR G 137)])).length) Slot.unset).toArray = ls at hl ⊢
  exact sfX1_mostUnlike C B.returns  ⟨hP, va_S.rf⟩ hl h
end T26
