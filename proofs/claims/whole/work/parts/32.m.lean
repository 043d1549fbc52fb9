section T32
variable {p : Program} {l : Launch} {e : Env} {s : State} {m : MethodId} {args : Array Value} {below : List Frame} {meth : Method} {c : Code} {G : Gt}
def KX10_pack_151 (r151 : Nat → Int32 → Int32 → St → Option St) (l1 : Nat) (l3 : Int32) (l4 : Int32) (S : St) : Option St :=
  (if 8 ≤ l4 then some S else rd S 162 l4 fun x3 => wr S l1 (l3 + l4) x3 fun S => vl (l4 + 1) fun x4 => (r151 l1 l3 x4 S))
set_option maxHeartbeats 4000000 in
set_option maxRecDepth 20000 in
theorem sKX10_pack_151 (C : Cx p s m args meth c cX10_pack 5 RX10 G) (hr : meth.sig.returnType = none) {r151 : Nat → Int32 → Int32 → St → Option St} (hr151 : ∀ (l1 : Nat) (l3 : Int32) (l4 : Int32) (S : St) (res : St) (H : Heap) (locs : List Loc) (ls : Array Slot), kd l1 = 20 → Dy G S s H locs → lv_has ls 5 [(0, .ref (gR G 142)), (1, .ref (gR G l1)), (3, .int l3), (4, .int l4)] → r151 l1 l3 l4 S = some res → W p l e (rmL 3 0 0) s m args below meth c H locs 0 0 (MQ below (QV G res) args s 0 0 (Ab G)) (F0 m 151 ls [])) {l1 : Nat} {l3 : Int32} {l4 : Int32} {S : St} {res : St} {H : Heap} {locs : List Loc} {ls : Array Slot} (kl1 : kd l1 = 20) (hd : Dy G S s H locs) (hl : lv_has ls 5 [(0, .ref (gR G 142)), (1, .ref (gR G l1)), (3, .int l3), (4, .int l4)]) (h : KX10_pack_151 r151 l1 l3 l4 S = some res) : W p l e (rmL 3 0 0) s m args below meth c H locs 0 0 (MQ below (QV G res) args s 0 0 (Ab G)) (F0 m 151 ls []) := by
  unfold KX10_pack_151 at h
  have hx := C.1.1
  have hb := C.1.2.1
  refine lv_iload hx hb dX10_pack_151 (lv_at hl 3 rfl) ?_
  refine lv_bipush (v := 8) hx hb dX10_pack_153 (by decide) ?_
  refine lv_icmp_ge (tgt := 177) hx hb dX10_pack_155 (by decide) (fun c1 => ?_) (fun c1 => ?_)
  · rw [if_pos c1] at h
    exact R_vret C hr hd h dX10_pack_177
  · rw [if_neg c1] at h
    refine lv_aload_n hx hb dX10_pack_158 rfl (lv_at hl 1 rfl) ?_
    refine lv_iload_n hx hb dX10_pack_159 rfl (lv_at hl 2 rfl) ?_
    refine lv_iload hx hb dX10_pack_160 (lv_at hl 3 rfl) ?_
    refine lv_iadd hx hb dX10_pack_162 ?_
    refine lv_aload_n hx hb dX10_pack_163 rfl (lv_at hl 0 rfl) ?_
    refine gX10_92 C hd (rfl : kd 142 = 10) (q := 162) rfl dX10_pack_164 (fun y2 => ?_)
    refine lv_iload hx hb dX10_pack_167 (lv_at hl 3 rfl) ?_
    refine R_iald C hd y2 h dX10_pack_169 (fun x3 h => ?_)
    refine R_iast C hd kl1 h dX10_pack_170 (fun S H locs hd h => ?_)
    refine R_vi h (fun x4 ex4 h => ?_)
    refine lv_iinc (v := x4) (lv' := [(4, .int x4), (0, .ref (gR G 142)), (1, .ref (gR G l1)), (3, .int l3)]) hx hb dX10_pack_171 hl (k := 3) rfl (by rw [ex4]; rfl) (by decide) rfl (fun ls hl => ?_)
    refine lv_goto (tgt := 151) hx hb dX10_pack_174 (by decide) ?_
    exact hr151 l1 l3 x4 _ _ _ _ _ kl1 hd (lv_sub hl [1, 2, 3, 0] rfl) h
def LX10_pack_151 : Nat → Nat → Int32 → Int32 → St → Option St
  | 0 => fun _ _ _ _ => none
  | n + 1 => fun l1 l3 l4 S => KX10_pack_151 (LX10_pack_151 n) l1 l3 l4 S
theorem sLX10_pack_151 (C : Cx p s m args meth c cX10_pack 5 RX10 G) (hr : meth.sig.returnType = none) : ∀ (n : Nat) (l1 : Nat) (l3 : Int32) (l4 : Int32) (S : St) (res : St) (H : Heap) (locs : List Loc) (ls : Array Slot), kd l1 = 20 → Dy G S s H locs → lv_has ls 5 [(0, .ref (gR G 142)), (1, .ref (gR G l1)), (3, .int l3), (4, .int l4)] → LX10_pack_151 n l1 l3 l4 S = some res → W p l e (rmL 3 0 0) s m args below meth c H locs 0 0 (MQ below (QV G res) args s 0 0 (Ab G)) (F0 m 151 ls []) := by
  intro n
  induction n with
  | zero => intro l1 l3 l4 S res H locs ls kl1 hd hl h; cases h
  | succ n ih =>
    intro l1 l3 l4 S res H locs ls kl1 hd hl h
    exact sKX10_pack_151 C hr ih kl1 hd hl h
def KX10_pack_111 (r111 : Nat → Int32 → Int32 → St → Option St) (l1 : Nat) (l3 : Int32) (l4 : Int32) (S : St) : Option St :=
  (if 36 ≤ l4 then vl (l3 + 36) fun x4 => (LX10_pack_151 FU l1 x4 0 S) else rd S 161 l4 fun x6 => wr S l1 (l3 + l4) x6 fun S => vl (l4 + 1) fun x7 => (r111 l1 l3 x7 S))
set_option maxHeartbeats 4000000 in
set_option maxRecDepth 20000 in
theorem sKX10_pack_111 (C : Cx p s m args meth c cX10_pack 5 RX10 G) (hr : meth.sig.returnType = none) {r111 : Nat → Int32 → Int32 → St → Option St} (hr111 : ∀ (l1 : Nat) (l3 : Int32) (l4 : Int32) (S : St) (res : St) (H : Heap) (locs : List Loc) (ls : Array Slot), kd l1 = 20 → Dy G S s H locs → lv_has ls 5 [(0, .ref (gR G 142)), (1, .ref (gR G l1)), (3, .int l3), (4, .int l4)] → r111 l1 l3 l4 S = some res → W p l e (rmL 3 0 0) s m args below meth c H locs 0 0 (MQ below (QV G res) args s 0 0 (Ab G)) (F0 m 111 ls [])) {l1 : Nat} {l3 : Int32} {l4 : Int32} {S : St} {res : St} {H : Heap} {locs : List Loc} {ls : Array Slot} (kl1 : kd l1 = 20) (hd : Dy G S s H locs) (hl : lv_has ls 5 [(0, .ref (gR G 142)), (1, .ref (gR G l1)), (3, .int l3), (4, .int l4)]) (h : KX10_pack_111 r111 l1 l3 l4 S = some res) : W p l e (rmL 3 0 0) s m args below meth c H locs 0 0 (MQ below (QV G res) args s 0 0 (Ab G)) (F0 m 111 ls []) := by
  unfold KX10_pack_111 at h
  have hx := C.1.1
  have hb := C.1.2.1
  refine lv_iload hx hb dX10_pack_111 (lv_at hl 3 rfl) ?_
  refine lv_aload_n hx hb dX10_pack_113 rfl (lv_at hl 0 rfl) ?_
  refine gX10_89 C hd (rfl : kd 142 = 10) (q := 161) rfl dX10_pack_114 (fun y1 => ?_)
  refine R_alen C hd y1 (v := 36) rfl dX10_pack_117 ?_
  refine lv_icmp_ge (tgt := 140) hx hb dX10_pack_118 (by decide) (fun c2 => ?_) (fun c2 => ?_)
  · rw [if_pos c2] at h
    refine lv_iload_n hx hb dX10_pack_140 rfl (lv_at hl 2 rfl) ?_
    refine lv_aload_n hx hb dX10_pack_141 rfl (lv_at hl 0 rfl) ?_
    refine gX10_89 C hd (rfl : kd 142 = 10) (q := 161) rfl dX10_pack_142 (fun y3 => ?_)
    refine R_alen C hd y3 (v := 36) rfl dX10_pack_145 ?_
    refine lv_iadd hx hb dX10_pack_146 ?_
    refine R_vl h (fun x4 h => ?_)
    refine lv_istore_n (lv' := [(3, .int x4), (0, .ref (gR G 142)), (1, .ref (gR G l1)), (4, .int l4)]) hx hb dX10_pack_147 rfl hl (by decide) rfl (fun ls hl => ?_)
    refine lv_iconst (v := 0) hx hb dX10_pack_148 (by decide) ?_
    refine lv_istore (lv' := [(4, .int 0), (3, .int x4), (0, .ref (gR G 142)), (1, .ref (gR G l1))]) hx hb dX10_pack_149 hl (by decide) rfl (fun ls hl => ?_)
    exact sLX10_pack_151 C hr _ l1 x4 0 _ _ _ _ _ kl1 hd (lv_sub hl [2, 3, 1, 0] rfl) h
  · rw [if_neg c2] at h
    refine lv_aload_n hx hb dX10_pack_121 rfl (lv_at hl 1 rfl) ?_
    refine lv_iload_n hx hb dX10_pack_122 rfl (lv_at hl 2 rfl) ?_
    refine lv_iload hx hb dX10_pack_123 (lv_at hl 3 rfl) ?_
    refine lv_iadd hx hb dX10_pack_125 ?_
    refine lv_aload_n hx hb dX10_pack_126 rfl (lv_at hl 0 rfl) ?_
    refine gX10_89 C hd (rfl : kd 142 = 10) (q := 161) rfl dX10_pack_127 (fun y5 => ?_)
    refine lv_iload hx hb dX10_pack_130 (lv_at hl 3 rfl) ?_
    refine R_iald C hd y5 h dX10_pack_132 (fun x6 h => ?_)
    refine R_iast C hd kl1 h dX10_pack_133 (fun S H locs hd h => ?_)
    refine R_vi h (fun x7 ex7 h => ?_)
    refine lv_iinc (v := x7) (lv' := [(4, .int x7), (0, .ref (gR G 142)), (1, .ref (gR G l1)), (3, .int l3)]) hx hb dX10_pack_134 hl (k := 3) rfl (by rw [ex7]; rfl) (by decide) rfl (fun ls hl => ?_)
    refine lv_goto (tgt := 111) hx hb dX10_pack_137 (by decide) ?_
    exact hr111 l1 l3 x7 _ _ _ _ _ kl1 hd (lv_sub hl [1, 2, 3, 0] rfl) h
def LX10_pack_111 : Nat → Nat → Int32 → Int32 → St → Option St
  | 0 => fun _ _ _ _ => none
  | n + 1 => fun l1 l3 l4 S => KX10_pack_111 (LX10_pack_111 n) l1 l3 l4 S
theorem sLX10_pack_111 (C : Cx p s m args meth c cX10_pack 5 RX10 G) (hr : meth.sig.returnType = none) : ∀ (n : Nat) (l1 : Nat) (l3 : Int32) (l4 : Int32) (S : St) (res : St) (H : Heap) (locs : List Loc) (ls : Array Slot), kd l1 = 20 → Dy G S s H locs → lv_has ls 5 [(0, .ref (gR G 142)), (1, .ref (gR G l1)), (3, .int l3), (4, .int l4)] → LX10_pack_111 n l1 l3 l4 S = some res → W p l e (rmL 3 0 0) s m args below meth c H locs 0 0 (MQ below (QV G res) args s 0 0 (Ab G)) (F0 m 111 ls []) := by
  intro n
  induction n with
  | zero => intro l1 l3 l4 S res H locs ls kl1 hd hl h; cases h
  | succ n ih =>
    intro l1 l3 l4 S res H locs ls kl1 hd hl h
    exact sKX10_pack_111 C hr ih kl1 hd hl h
def KX10_pack_71 (r71 : Nat → Int32 → Int32 → St → Option St) (l1 : Nat) (l3 : Int32) (l4 : Int32) (S : St) : Option St :=
  (if 48 ≤ l4 then vl (l3 + 48) fun x4 => (LX10_pack_111 FU l1 x4 0 S) else rd S 160 l4 fun x6 => wr S l1 (l3 + l4) x6 fun S => vl (l4 + 1) fun x7 => (r71 l1 l3 x7 S))
set_option maxHeartbeats 4000000 in
set_option maxRecDepth 20000 in
theorem sKX10_pack_71 (C : Cx p s m args meth c cX10_pack 5 RX10 G) (hr : meth.sig.returnType = none) {r71 : Nat → Int32 → Int32 → St → Option St} (hr71 : ∀ (l1 : Nat) (l3 : Int32) (l4 : Int32) (S : St) (res : St) (H : Heap) (locs : List Loc) (ls : Array Slot), kd l1 = 20 → Dy G S s H locs → lv_has ls 5 [(0, .ref (gR G 142)), (1, .ref (gR G l1)), (3, .int l3), (4, .int l4)] → r71 l1 l3 l4 S = some res → W p l e (rmL 3 0 0) s m args below meth c H locs 0 0 (MQ below (QV G res) args s 0 0 (Ab G)) (F0 m 71 ls [])) {l1 : Nat} {l3 : Int32} {l4 : Int32} {S : St} {res : St} {H : Heap} {locs : List Loc} {ls : Array Slot} (kl1 : kd l1 = 20) (hd : Dy G S s H locs) (hl : lv_has ls 5 [(0, .ref (gR G 142)), (1, .ref (gR G l1)), (3, .int l3), (4, .int l4)]) (h : KX10_pack_71 r71 l1 l3 l4 S = some res) : W p l e (rmL 3 0 0) s m args below meth c H locs 0 0 (MQ below (QV G res) args s 0 0 (Ab G)) (F0 m 71 ls []) := by
  unfold KX10_pack_71 at h
  have hx := C.1.1
  have hb := C.1.2.1
  refine lv_iload hx hb dX10_pack_71 (lv_at hl 3 rfl) ?_
  refine lv_aload_n hx hb dX10_pack_73 rfl (lv_at hl 0 rfl) ?_
  refine gX10_86 C hd (rfl : kd 142 = 10) (q := 160) rfl dX10_pack_74 (fun y1 => ?_)
  refine R_alen C hd y1 (v := 48) rfl dX10_pack_77 ?_
  refine lv_icmp_ge (tgt := 100) hx hb dX10_pack_78 (by decide) (fun c2 => ?_) (fun c2 => ?_)
  · rw [if_pos c2] at h
    refine lv_iload_n hx hb dX10_pack_100 rfl (lv_at hl 2 rfl) ?_
    refine lv_aload_n hx hb dX10_pack_101 rfl (lv_at hl 0 rfl) ?_
    refine gX10_86 C hd (rfl : kd 142 = 10) (q := 160) rfl dX10_pack_102 (fun y3 => ?_)
    refine R_alen C hd y3 (v := 48) rfl dX10_pack_105 ?_
    refine lv_iadd hx hb dX10_pack_106 ?_
    refine R_vl h (fun x4 h => ?_)
    refine lv_istore_n (lv' := [(3, .int x4), (0, .ref (gR G 142)), (1, .ref (gR G l1)), (4, .int l4)]) hx hb dX10_pack_107 rfl hl (by decide) rfl (fun ls hl => ?_)
    refine lv_iconst (v := 0) hx hb dX10_pack_108 (by decide) ?_
    refine lv_istore (lv' := [(4, .int 0), (3, .int x4), (0, .ref (gR G 142)), (1, .ref (gR G l1))]) hx hb dX10_pack_109 hl (by decide) rfl (fun ls hl => ?_)
    exact sLX10_pack_111 C hr _ l1 x4 0 _ _ _ _ _ kl1 hd (lv_sub hl [2, 3, 1, 0] rfl) h
  · rw [if_neg c2] at h
    refine lv_aload_n hx hb dX10_pack_81 rfl (lv_at hl 1 rfl) ?_
    refine lv_iload_n hx hb dX10_pack_82 rfl (lv_at hl 2 rfl) ?_
    refine lv_iload hx hb dX10_pack_83 (lv_at hl 3 rfl) ?_
    refine lv_iadd hx hb dX10_pack_85 ?_
    refine lv_aload_n hx hb dX10_pack_86 rfl (lv_at hl 0 rfl) ?_
    refine gX10_86 C hd (rfl : kd 142 = 10) (q := 160) rfl dX10_pack_87 (fun y5 => ?_)
    refine lv_iload hx hb dX10_pack_90 (lv_at hl 3 rfl) ?_
    refine R_iald C hd y5 h dX10_pack_92 (fun x6 h => ?_)
    refine R_iast C hd kl1 h dX10_pack_93 (fun S H locs hd h => ?_)
    refine R_vi h (fun x7 ex7 h => ?_)
    refine lv_iinc (v := x7) (lv' := [(4, .int x7), (0, .ref (gR G 142)), (1, .ref (gR G l1)), (3, .int l3)]) hx hb dX10_pack_94 hl (k := 3) rfl (by rw [ex7]; rfl) (by decide) rfl (fun ls hl => ?_)
    refine lv_goto (tgt := 71) hx hb dX10_pack_97 (by decide) ?_
    exact hr71 l1 l3 x7 _ _ _ _ _ kl1 hd (lv_sub hl [1, 2, 3, 0] rfl) h
def LX10_pack_71 : Nat → Nat → Int32 → Int32 → St → Option St
  | 0 => fun _ _ _ _ => none
  | n + 1 => fun l1 l3 l4 S => KX10_pack_71 (LX10_pack_71 n) l1 l3 l4 S
theorem sLX10_pack_71 (C : Cx p s m args meth c cX10_pack 5 RX10 G) (hr : meth.sig.returnType = none) : ∀ (n : Nat) (l1 : Nat) (l3 : Int32) (l4 : Int32) (S : St) (res : St) (H : Heap) (locs : List Loc) (ls : Array Slot), kd l1 = 20 → Dy G S s H locs → lv_has ls 5 [(0, .ref (gR G 142)), (1, .ref (gR G l1)), (3, .int l3), (4, .int l4)] → LX10_pack_71 n l1 l3 l4 S = some res → W p l e (rmL 3 0 0) s m args below meth c H locs 0 0 (MQ below (QV G res) args s 0 0 (Ab G)) (F0 m 71 ls []) := by
  intro n
  induction n with
  | zero => intro l1 l3 l4 S res H locs ls kl1 hd hl h; cases h
  | succ n ih =>
    intro l1 l3 l4 S res H locs ls kl1 hd hl h
    exact sKX10_pack_71 C hr ih kl1 hd hl h
def KX10_pack_23 (r23 : Nat → Int32 → Int32 → St → Option St) (l1 : Nat) (l3 : Int32) (l4 : Int32) (S : St) : Option St :=
  (if 6 ≤ l4 then vl (l3 + 12) fun x2 => (LX10_pack_71 FU l1 x2 0 S) else rd S 158 l4 fun x4 => wr S l1 (l3 + l4) x4 fun S => rd S 159 l4 fun x6 => wr S l1 ((l3 + 6) + l4) x6 fun S => vl (l4 + 1) fun x7 => (r23 l1 l3 x7 S))
set_option maxHeartbeats 4000000 in
set_option maxRecDepth 20000 in
theorem sKX10_pack_23 (C : Cx p s m args meth c cX10_pack 5 RX10 G) (hr : meth.sig.returnType = none) {r23 : Nat → Int32 → Int32 → St → Option St} (hr23 : ∀ (l1 : Nat) (l3 : Int32) (l4 : Int32) (S : St) (res : St) (H : Heap) (locs : List Loc) (ls : Array Slot), kd l1 = 20 → Dy G S s H locs → lv_has ls 5 [(0, .ref (gR G 142)), (1, .ref (gR G l1)), (3, .int l3), (4, .int l4)] → r23 l1 l3 l4 S = some res → W p l e (rmL 3 0 0) s m args below meth c H locs 0 0 (MQ below (QV G res) args s 0 0 (Ab G)) (F0 m 23 ls [])) {l1 : Nat} {l3 : Int32} {l4 : Int32} {S : St} {res : St} {H : Heap} {locs : List Loc} {ls : Array Slot} (kl1 : kd l1 = 20) (hd : Dy G S s H locs) (hl : lv_has ls 5 [(0, .ref (gR G 142)), (1, .ref (gR G l1)), (3, .int l3), (4, .int l4)]) (h : KX10_pack_23 r23 l1 l3 l4 S = some res) : W p l e (rmL 3 0 0) s m args below meth c H locs 0 0 (MQ below (QV G res) args s 0 0 (Ab G)) (F0 m 23 ls []) := by
  unfold KX10_pack_23 at h
  have hx := C.1.1
  have hb := C.1.2.1
  refine lv_iload hx hb dX10_pack_23 (lv_at hl 3 rfl) ?_
  refine lv_bipush (v := 6) hx hb dX10_pack_25 (by decide) ?_
  refine lv_icmp_ge (tgt := 65) hx hb dX10_pack_27 (by decide) (fun c1 => ?_) (fun c1 => ?_)
  · rw [if_pos c1] at h
    refine R_vi h (fun x2 ex2 h => ?_)
    refine lv_iinc (v := x2) (lv' := [(3, .int x2), (0, .ref (gR G 142)), (1, .ref (gR G l1)), (4, .int l4)]) hx hb dX10_pack_65 hl (k := 2) rfl (by rw [ex2]; rfl) (by decide) rfl (fun ls hl => ?_)
    refine lv_iconst (v := 0) hx hb dX10_pack_68 (by decide) ?_
    refine lv_istore (lv' := [(4, .int 0), (3, .int x2), (0, .ref (gR G 142)), (1, .ref (gR G l1))]) hx hb dX10_pack_69 hl (by decide) rfl (fun ls hl => ?_)
    exact sLX10_pack_71 C hr _ l1 x2 0 _ _ _ _ _ kl1 hd (lv_sub hl [2, 3, 1, 0] rfl) h
  · rw [if_neg c1] at h
    refine lv_aload_n hx hb dX10_pack_30 rfl (lv_at hl 1 rfl) ?_
    refine lv_iload_n hx hb dX10_pack_31 rfl (lv_at hl 2 rfl) ?_
    refine lv_iload hx hb dX10_pack_32 (lv_at hl 3 rfl) ?_
    refine lv_iadd hx hb dX10_pack_34 ?_
    refine lv_aload_n hx hb dX10_pack_35 rfl (lv_at hl 0 rfl) ?_
    refine gX10_81 C hd (rfl : kd 142 = 10) (q := 158) rfl dX10_pack_36 (fun y3 => ?_)
    refine lv_iload hx hb dX10_pack_39 (lv_at hl 3 rfl) ?_
    refine R_iald C hd y3 h dX10_pack_41 (fun x4 h => ?_)
    refine R_iast C hd kl1 h dX10_pack_42 (fun S H locs hd h => ?_)
    refine lv_aload_n hx hb dX10_pack_43 rfl (lv_at hl 1 rfl) ?_
    refine lv_iload_n hx hb dX10_pack_44 rfl (lv_at hl 2 rfl) ?_
    refine lv_bipush (v := 6) hx hb dX10_pack_45 (by decide) ?_
    refine lv_iadd hx hb dX10_pack_47 ?_
    refine lv_iload hx hb dX10_pack_48 (lv_at hl 3 rfl) ?_
    refine lv_iadd hx hb dX10_pack_50 ?_
    refine lv_aload_n hx hb dX10_pack_51 rfl (lv_at hl 0 rfl) ?_
    refine gX10_83 C hd (rfl : kd 142 = 10) (q := 159) rfl dX10_pack_52 (fun y5 => ?_)
    refine lv_iload hx hb dX10_pack_55 (lv_at hl 3 rfl) ?_
    refine R_iald C hd y5 h dX10_pack_57 (fun x6 h => ?_)
    refine R_iast C hd kl1 h dX10_pack_58 (fun S H locs hd h => ?_)
    refine R_vi h (fun x7 ex7 h => ?_)
    refine lv_iinc (v := x7) (lv' := [(4, .int x7), (0, .ref (gR G 142)), (1, .ref (gR G l1)), (3, .int l3)]) hx hb dX10_pack_59 hl (k := 3) rfl (by rw [ex7]; rfl) (by decide) rfl (fun ls hl => ?_)
    refine lv_goto (tgt := 23) hx hb dX10_pack_62 (by decide) ?_
    exact hr23 l1 l3 x7 _ _ _ _ _ kl1 hd (lv_sub hl [1, 2, 3, 0] rfl) h
def LX10_pack_23 : Nat → Nat → Int32 → Int32 → St → Option St
  | 0 => fun _ _ _ _ => none
  | n + 1 => fun l1 l3 l4 S => KX10_pack_23 (LX10_pack_23 n) l1 l3 l4 S
theorem sLX10_pack_23 (C : Cx p s m args meth c cX10_pack 5 RX10 G) (hr : meth.sig.returnType = none) : ∀ (n : Nat) (l1 : Nat) (l3 : Int32) (l4 : Int32) (S : St) (res : St) (H : Heap) (locs : List Loc) (ls : Array Slot), kd l1 = 20 → Dy G S s H locs → lv_has ls 5 [(0, .ref (gR G 142)), (1, .ref (gR G l1)), (3, .int l3), (4, .int l4)] → LX10_pack_23 n l1 l3 l4 S = some res → W p l e (rmL 3 0 0) s m args below meth c H locs 0 0 (MQ below (QV G res) args s 0 0 (Ab G)) (F0 m 23 ls []) := by
  intro n
  induction n with
  | zero => intro l1 l3 l4 S res H locs ls kl1 hd hl h; cases h
  | succ n ih =>
    intro l1 l3 l4 S res H locs ls kl1 hd hl h
    exact sKX10_pack_23 C hr ih kl1 hd hl h
def fX10_pack (a1 : Nat) (a2 : Int32) (S : St) : Option St :=
  wr S a1 a2 (S 142 34) fun S => wr S a1 (a2 + 1) (S 142 35) fun S => vl (a2 + 2) fun x1 => (LX10_pack_23 FU a1 x1 0 S)
set_option maxHeartbeats 4000000 in
set_option maxRecDepth 20000 in
theorem sfX10_pack (C : Cx p s m args meth c cX10_pack 5 RX10 G) (hr : meth.sig.returnType = none) {a1 : Nat} {a2 : Int32} {S : St} {res : St} {H : Heap} {locs : List Loc} {ls : Array Slot} (k1 : kd a1 = 20) (hd : Dy G S s H locs) (hl : lv_has ls 5 [(0, .ref (gR G 142)), (1, .ref (gR G a1)), (2, .int a2)]) (h : fX10_pack a1 a2 S = some res) : W p l e (rmL 3 0 0) s m args below meth c H locs 0 0 (MQ below (QV G res) args s 0 0 (Ab G)) (F0 m 0 ls []) := by
  unfold fX10_pack at h
  have hx := C.1.1
  have hb := C.1.2.1
  refine lv_aload_n hx hb dX10_pack_0 rfl (lv_at hl 1 rfl) ?_
  refine lv_iload_n hx hb dX10_pack_1 rfl (lv_at hl 2 rfl) ?_
  refine lv_aload_n hx hb dX10_pack_2 rfl (lv_at hl 0 rfl) ?_
  refine gX10_338 C hd (rfl : kd 142 = 10) dX10_pack_3 ?_
  refine R_iast C hd k1 h dX10_pack_6 (fun S H locs hd h => ?_)
  refine lv_aload_n hx hb dX10_pack_7 rfl (lv_at hl 1 rfl) ?_
  refine lv_iload_n hx hb dX10_pack_8 rfl (lv_at hl 2 rfl) ?_
  refine lv_iconst (v := 1) hx hb dX10_pack_9 (by decide) ?_
  refine lv_iadd hx hb dX10_pack_10 ?_
  refine lv_aload_n hx hb dX10_pack_11 rfl (lv_at hl 0 rfl) ?_
  refine gX10_340 C hd (rfl : kd 142 = 10) dX10_pack_12 ?_
  refine R_iast C hd k1 h dX10_pack_15 (fun S H locs hd h => ?_)
  refine lv_iload_n hx hb dX10_pack_16 rfl (lv_at hl 2 rfl) ?_
  refine lv_iconst (v := 2) hx hb dX10_pack_17 (by decide) ?_
  refine lv_iadd hx hb dX10_pack_18 ?_
  refine R_vl h (fun x1 h => ?_)
  refine lv_istore_n (lv' := [(3, .int x1), (0, .ref (gR G 142)), (1, .ref (gR G a1)), (2, .int a2)]) hx hb dX10_pack_19 rfl hl (by decide) rfl (fun ls hl => ?_)
  refine lv_iconst (v := 0) hx hb dX10_pack_20 (by decide) ?_
  refine lv_istore (lv' := [(4, .int 0), (3, .int x1), (0, .ref (gR G 142)), (1, .ref (gR G a1)), (2, .int a2)]) hx hb dX10_pack_21 hl (by decide) rfl (fun ls hl => ?_)
  exact sLX10_pack_23 C hr _ a1 x1 0 _ _ _ _ _ k1 hd (lv_sub hl [2, 3, 1, 0] rfl) h
set_option maxRecDepth 20000 in
theorem ccX10_pack (l : Launch) (G : Gt) {a1 : Nat} {a2 : Int32} {S : St} {res : St} (k1 : kd a1 = 20) (h : fX10_pack a1 a2 S = some res) : Met l yX10_pack (wm yX10_pack cX10_pack 5 (none)) (rmL 3 0 0) (PcW G S [.ref (gR G 142), .ref (gR G a1), .int a2]) (QV G res) 0 0 (Ab G) := by
  refine Met.ofW (cc := cX10_pack) (maxL := 5) (ret := none) (by decide) rfl ?_
  intro p e s m args below meth c s₁ B hml hv
  obtain ⟨rfl, hK, hP⟩ := hv
  have C : Cx p s m _ meth c cX10_pack 5 RX10 G := ⟨⟨B.exec, B.bytes, hml, findClass_of_methodNamed B.named, fun w hw => atoms_spec (ws := wm yX10_pack cX10_pack 5 (none)) B.pre w (List.mem_cons_of_mem _ hw)⟩, B.notSynchronized, hK⟩
  have hl := lv_entry ([.ref (gR G 142), .ref (gR G a1), .int a2]) (n := 5) (Nat.le_of_ble_eq_true rfl)
  rw [lg_entry_eq]
  generalize (lg_sl ([.ref (gR G 142), .ref (gR G a1), .int a2]) ++ List.replicate (5 - (lg_sl ([.ref (gR G 142), .ref (gR G a1), .int a2])).length) Slot.unset).toArray = ls at hl ⊢
  exact sfX10_pack C B.returns k1 ⟨hP, va_S.rf⟩ hl h
def KX10_unpack_151 (r151 : Nat → Int32 → Int32 → St → Option St) (l1 : Nat) (l3 : Int32) (l4 : Int32) (S : St) : Option St :=
  (if 8 ≤ l4 then some S else rd S l1 (l3 + l4) fun x3 => wr S 162 l4 x3 fun S => vl (l4 + 1) fun x4 => (r151 l1 l3 x4 S))
set_option maxHeartbeats 4000000 in
set_option maxRecDepth 20000 in
theorem sKX10_unpack_151 (C : Cx p s m args meth c cX10_unpack 5 RX10 G) (hr : meth.sig.returnType = none) {r151 : Nat → Int32 → Int32 → St → Option St} (hr151 : ∀ (l1 : Nat) (l3 : Int32) (l4 : Int32) (S : St) (res : St) (H : Heap) (locs : List Loc) (ls : Array Slot), kd l1 = 20 → Dy G S s H locs → lv_has ls 5 [(0, .ref (gR G 142)), (1, .ref (gR G l1)), (3, .int l3), (4, .int l4)] → r151 l1 l3 l4 S = some res → W p l e (rmL 3 0 0) s m args below meth c H locs 0 0 (MQ below (QV G res) args s 0 0 (Ab G)) (F0 m 151 ls [])) {l1 : Nat} {l3 : Int32} {l4 : Int32} {S : St} {res : St} {H : Heap} {locs : List Loc} {ls : Array Slot} (kl1 : kd l1 = 20) (hd : Dy G S s H locs) (hl : lv_has ls 5 [(0, .ref (gR G 142)), (1, .ref (gR G l1)), (3, .int l3), (4, .int l4)]) (h : KX10_unpack_151 r151 l1 l3 l4 S = some res) : W p l e (rmL 3 0 0) s m args below meth c H locs 0 0 (MQ below (QV G res) args s 0 0 (Ab G)) (F0 m 151 ls []) := by
  unfold KX10_unpack_151 at h
  have hx := C.1.1
  have hb := C.1.2.1
  refine lv_iload hx hb dX10_unpack_151 (lv_at hl 3 rfl) ?_
  refine lv_bipush (v := 8) hx hb dX10_unpack_153 (by decide) ?_
  refine lv_icmp_ge (tgt := 177) hx hb dX10_unpack_155 (by decide) (fun c1 => ?_) (fun c1 => ?_)
  · rw [if_pos c1] at h
    exact R_vret C hr hd h dX10_unpack_177
  · rw [if_neg c1] at h
    refine lv_aload_n hx hb dX10_unpack_158 rfl (lv_at hl 0 rfl) ?_
    refine gX10_92 C hd (rfl : kd 142 = 10) (q := 162) rfl dX10_unpack_159 (fun y2 => ?_)
    refine lv_iload hx hb dX10_unpack_162 (lv_at hl 3 rfl) ?_
    refine lv_aload_n hx hb dX10_unpack_164 rfl (lv_at hl 1 rfl) ?_
    refine lv_iload_n hx hb dX10_unpack_165 rfl (lv_at hl 2 rfl) ?_
    refine lv_iload hx hb dX10_unpack_166 (lv_at hl 3 rfl) ?_
    refine lv_iadd hx hb dX10_unpack_168 ?_
    refine R_iald C hd kl1 h dX10_unpack_169 (fun x3 h => ?_)
    refine R_iast C hd y2 h dX10_unpack_170 (fun S H locs hd h => ?_)
    refine R_vi h (fun x4 ex4 h => ?_)
    refine lv_iinc (v := x4) (lv' := [(4, .int x4), (0, .ref (gR G 142)), (1, .ref (gR G l1)), (3, .int l3)]) hx hb dX10_unpack_171 hl (k := 3) rfl (by rw [ex4]; rfl) (by decide) rfl (fun ls hl => ?_)
    refine lv_goto (tgt := 151) hx hb dX10_unpack_174 (by decide) ?_
    exact hr151 l1 l3 x4 _ _ _ _ _ kl1 hd (lv_sub hl [1, 2, 3, 0] rfl) h
def LX10_unpack_151 : Nat → Nat → Int32 → Int32 → St → Option St
  | 0 => fun _ _ _ _ => none
  | n + 1 => fun l1 l3 l4 S => KX10_unpack_151 (LX10_unpack_151 n) l1 l3 l4 S
theorem sLX10_unpack_151 (C : Cx p s m args meth c cX10_unpack 5 RX10 G) (hr : meth.sig.returnType = none) : ∀ (n : Nat) (l1 : Nat) (l3 : Int32) (l4 : Int32) (S : St) (res : St) (H : Heap) (locs : List Loc) (ls : Array Slot), kd l1 = 20 → Dy G S s H locs → lv_has ls 5 [(0, .ref (gR G 142)), (1, .ref (gR G l1)), (3, .int l3), (4, .int l4)] → LX10_unpack_151 n l1 l3 l4 S = some res → W p l e (rmL 3 0 0) s m args below meth c H locs 0 0 (MQ below (QV G res) args s 0 0 (Ab G)) (F0 m 151 ls []) := by
  intro n
  induction n with
  | zero => intro l1 l3 l4 S res H locs ls kl1 hd hl h; cases h
  | succ n ih =>
    intro l1 l3 l4 S res H locs ls kl1 hd hl h
    exact sKX10_unpack_151 C hr ih kl1 hd hl h
def KX10_unpack_111 (r111 : Nat → Int32 → Int32 → St → Option St) (l1 : Nat) (l3 : Int32) (l4 : Int32) (S : St) : Option St :=
  (if 36 ≤ l4 then vl (l3 + 36) fun x4 => (LX10_unpack_151 FU l1 x4 0 S) else rd S l1 (l3 + l4) fun x6 => wr S 161 l4 x6 fun S => vl (l4 + 1) fun x7 => (r111 l1 l3 x7 S))
set_option maxHeartbeats 4000000 in
set_option maxRecDepth 20000 in
theorem sKX10_unpack_111 (C : Cx p s m args meth c cX10_unpack 5 RX10 G) (hr : meth.sig.returnType = none) {r111 : Nat → Int32 → Int32 → St → Option St} (hr111 : ∀ (l1 : Nat) (l3 : Int32) (l4 : Int32) (S : St) (res : St) (H : Heap) (locs : List Loc) (ls : Array Slot), kd l1 = 20 → Dy G S s H locs → lv_has ls 5 [(0, .ref (gR G 142)), (1, .ref (gR G l1)), (3, .int l3), (4, .int l4)] → r111 l1 l3 l4 S = some res → W p l e (rmL 3 0 0) s m args below meth c H locs 0 0 (MQ below (QV G res) args s 0 0 (Ab G)) (F0 m 111 ls [])) {l1 : Nat} {l3 : Int32} {l4 : Int32} {S : St} {res : St} {H : Heap} {locs : List Loc} {ls : Array Slot} (kl1 : kd l1 = 20) (hd : Dy G S s H locs) (hl : lv_has ls 5 [(0, .ref (gR G 142)), (1, .ref (gR G l1)), (3, .int l3), (4, .int l4)]) (h : KX10_unpack_111 r111 l1 l3 l4 S = some res) : W p l e (rmL 3 0 0) s m args below meth c H locs 0 0 (MQ below (QV G res) args s 0 0 (Ab G)) (F0 m 111 ls []) := by
  unfold KX10_unpack_111 at h
  have hx := C.1.1
  have hb := C.1.2.1
  refine lv_iload hx hb dX10_unpack_111 (lv_at hl 3 rfl) ?_
  refine lv_aload_n hx hb dX10_unpack_113 rfl (lv_at hl 0 rfl) ?_
  refine gX10_89 C hd (rfl : kd 142 = 10) (q := 161) rfl dX10_unpack_114 (fun y1 => ?_)
  refine R_alen C hd y1 (v := 36) rfl dX10_unpack_117 ?_
  refine lv_icmp_ge (tgt := 140) hx hb dX10_unpack_118 (by decide) (fun c2 => ?_) (fun c2 => ?_)
  · rw [if_pos c2] at h
    refine lv_iload_n hx hb dX10_unpack_140 rfl (lv_at hl 2 rfl) ?_
    refine lv_aload_n hx hb dX10_unpack_141 rfl (lv_at hl 0 rfl) ?_
    refine gX10_89 C hd (rfl : kd 142 = 10) (q := 161) rfl dX10_unpack_142 (fun y3 => ?_)
    refine R_alen C hd y3 (v := 36) rfl dX10_unpack_145 ?_
    refine lv_iadd hx hb dX10_unpack_146 ?_
    refine R_vl h (fun x4 h => ?_)
    refine lv_istore_n (lv' := [(3, .int x4), (0, .ref (gR G 142)), (1, .ref (gR G l1)), (4, .int l4)]) hx hb dX10_unpack_147 rfl hl (by decide) rfl (fun ls hl => ?_)
    refine lv_iconst (v := 0) hx hb dX10_unpack_148 (by decide) ?_
    refine lv_istore (lv' := [(4, .int 0), (3, .int x4), (0, .ref (gR G 142)), (1, .ref (gR G l1))]) hx hb dX10_unpack_149 hl (by decide) rfl (fun ls hl => ?_)
    exact sLX10_unpack_151 C hr _ l1 x4 0 _ _ _ _ _ kl1 hd (lv_sub hl [2, 3, 1, 0] rfl) h
  · rw [if_neg c2] at h
    refine lv_aload_n hx hb dX10_unpack_121 rfl (lv_at hl 0 rfl) ?_
    refine gX10_89 C hd (rfl : kd 142 = 10) (q := 161) rfl dX10_unpack_122 (fun y5 => ?_)
    refine lv_iload hx hb dX10_unpack_125 (lv_at hl 3 rfl) ?_
    refine lv_aload_n hx hb dX10_unpack_127 rfl (lv_at hl 1 rfl) ?_
    refine lv_iload_n hx hb dX10_unpack_128 rfl (lv_at hl 2 rfl) ?_
    refine lv_iload hx hb dX10_unpack_129 (lv_at hl 3 rfl) ?_
    refine lv_iadd hx hb dX10_unpack_131 ?_
    refine R_iald C hd kl1 h dX10_unpack_132 (fun x6 h => ?_)
    refine R_iast C hd y5 h dX10_unpack_133 (fun S H locs hd h => ?_)
    refine R_vi h (fun x7 ex7 h => ?_)
    refine lv_iinc (v := x7) (lv' := [(4, .int x7), (0, .ref (gR G 142)), (1, .ref (gR G l1)), (3, .int l3)]) hx hb dX10_unpack_134 hl (k := 3) rfl (by rw [ex7]; rfl) (by decide) rfl (fun ls hl => ?_)
    refine lv_goto (tgt := 111) hx hb dX10_unpack_137 (by decide) ?_
    exact hr111 l1 l3 x7 _ _ _ _ _ kl1 hd (lv_sub hl [1, 2, 3, 0] rfl) h
def LX10_unpack_111 : Nat → Nat → Int32 → Int32 → St → Option St
  | 0 => fun _ _ _ _ => none
  | n + 1 => fun l1 l3 l4 S => KX10_unpack_111 (LX10_unpack_111 n) l1 l3 l4 S
theorem sLX10_unpack_111 (C : Cx p s m args meth c cX10_unpack 5 RX10 G) (hr : meth.sig.returnType = none) : ∀ (n : Nat) (l1 : Nat) (l3 : Int32) (l4 : Int32) (S : St) (res : St) (H : Heap) (locs : List Loc) (ls : Array Slot), kd l1 = 20 → Dy G S s H locs → lv_has ls 5 [(0, .ref (gR G 142)), (1, .ref (gR G l1)), (3, .int l3), (4, .int l4)] → LX10_unpack_111 n l1 l3 l4 S = some res → W p l e (rmL 3 0 0) s m args below meth c H locs 0 0 (MQ below (QV G res) args s 0 0 (Ab G)) (F0 m 111 ls []) := by
  intro n
  induction n with
  | zero => intro l1 l3 l4 S res H locs ls kl1 hd hl h; cases h
  | succ n ih =>
    intro l1 l3 l4 S res H locs ls kl1 hd hl h
    exact sKX10_unpack_111 C hr ih kl1 hd hl h
def KX10_unpack_71 (r71 : Nat → Int32 → Int32 → St → Option St) (l1 : Nat) (l3 : Int32) (l4 : Int32) (S : St) : Option St :=
  (if 48 ≤ l4 then vl (l3 + 48) fun x4 => (LX10_unpack_111 FU l1 x4 0 S) else rd S l1 (l3 + l4) fun x6 => wr S 160 l4 x6 fun S => vl (l4 + 1) fun x7 => (r71 l1 l3 x7 S))
set_option maxHeartbeats 4000000 in
set_option maxRecDepth 20000 in
theorem sKX10_unpack_71 (C : Cx p s m args meth c cX10_unpack 5 RX10 G) (hr : meth.sig.returnType = none) {r71 : Nat → Int32 → Int32 → St → Option St} (hr71 : ∀ (l1 : Nat) (l3 : Int32) (l4 : Int32) (S : St) (res : St) (H : Heap) (locs : List Loc) (ls : Array Slot), kd l1 = 20 → Dy G S s H locs → lv_has ls 5 [(0, .ref (gR G 142)), (1, .ref (gR G l1)), (3, .int l3), (4, .int l4)] → r71 l1 l3 l4 S = some res → W p l e (rmL 3 0 0) s m args below meth c H locs 0 0 (MQ below (QV G res) args s 0 0 (Ab G)) (F0 m 71 ls [])) {l1 : Nat} {l3 : Int32} {l4 : Int32} {S : St} {res : St} {H : Heap} {locs : List Loc} {ls : Array Slot} (kl1 : kd l1 = 20) (hd : Dy G S s H locs) (hl : lv_has ls 5 [(0, .ref (gR G 142)), (1, .ref (gR G l1)), (3, .int l3), (4, .int l4)]) (h : KX10_unpack_71 r71 l1 l3 l4 S = some res) : W p l e (rmL 3 0 0) s m args below meth c H locs 0 0 (MQ below (QV G res) args s 0 0 (Ab G)) (F0 m 71 ls []) := by
  unfold KX10_unpack_71 at h
  have hx := C.1.1
  have hb := C.1.2.1
  refine lv_iload hx hb dX10_unpack_71 (lv_at hl 3 rfl) ?_
  refine lv_aload_n hx hb dX10_unpack_73 rfl (lv_at hl 0 rfl) ?_
  refine gX10_86 C hd (rfl : kd 142 = 10) (q := 160) rfl dX10_unpack_74 (fun y1 => ?_)
  refine R_alen C hd y1 (v := 48) rfl dX10_unpack_77 ?_
  refine lv_icmp_ge (tgt := 100) hx hb dX10_unpack_78 (by decide) (fun c2 => ?_) (fun c2 => ?_)
  · rw [if_pos c2] at h
    refine lv_iload_n hx hb dX10_unpack_100 rfl (lv_at hl 2 rfl) ?_
    refine lv_aload_n hx hb dX10_unpack_101 rfl (lv_at hl 0 rfl) ?_
    refine gX10_86 C hd (rfl : kd 142 = 10) (q := 160) rfl dX10_unpack_102 (fun y3 => ?_)
    refine R_alen C hd y3 (v := 48) rfl dX10_unpack_105 ?_
    refine lv_iadd hx hb dX10_unpack_106 ?_
    refine R_vl h (fun x4 h => ?_)
    refine lv_istore_n (lv' := [(3, .int x4), (0, .ref (gR G 142)), (1, .ref (gR G l1)), (4, .int l4)]) hx hb dX10_unpack_107 rfl hl (by decide) rfl (fun ls hl => ?_)
    refine lv_iconst (v := 0) hx hb dX10_unpack_108 (by decide) ?_
    refine lv_istore (lv' := [(4, .int 0), (3, .int x4), (0, .ref (gR G 142)), (1, .ref (gR G l1))]) hx hb dX10_unpack_109 hl (by decide) rfl (fun ls hl => ?_)
    exact sLX10_unpack_111 C hr _ l1 x4 0 _ _ _ _ _ kl1 hd (lv_sub hl [2, 3, 1, 0] rfl) h
  · rw [if_neg c2] at h
    refine lv_aload_n hx hb dX10_unpack_81 rfl (lv_at hl 0 rfl) ?_
    refine gX10_86 C hd (rfl : kd 142 = 10) (q := 160) rfl dX10_unpack_82 (fun y5 => ?_)
    refine lv_iload hx hb dX10_unpack_85 (lv_at hl 3 rfl) ?_
    refine lv_aload_n hx hb dX10_unpack_87 rfl (lv_at hl 1 rfl) ?_
    refine lv_iload_n hx hb dX10_unpack_88 rfl (lv_at hl 2 rfl) ?_
    refine lv_iload hx hb dX10_unpack_89 (lv_at hl 3 rfl) ?_
    refine lv_iadd hx hb dX10_unpack_91 ?_
    refine R_iald C hd kl1 h dX10_unpack_92 (fun x6 h => ?_)
    refine R_iast C hd y5 h dX10_unpack_93 (fun S H locs hd h => ?_)
    refine R_vi h (fun x7 ex7 h => ?_)
    refine lv_iinc (v := x7) (lv' := [(4, .int x7), (0, .ref (gR G 142)), (1, .ref (gR G l1)), (3, .int l3)]) hx hb dX10_unpack_94 hl (k := 3) rfl (by rw [ex7]; rfl) (by decide) rfl (fun ls hl => ?_)
    refine lv_goto (tgt := 71) hx hb dX10_unpack_97 (by decide) ?_
    exact hr71 l1 l3 x7 _ _ _ _ _ kl1 hd (lv_sub hl [1, 2, 3, 0] rfl) h
def LX10_unpack_71 : Nat → Nat → Int32 → Int32 → St → Option St
  | 0 => fun _ _ _ _ => none
  | n + 1 => fun l1 l3 l4 S => KX10_unpack_71 (LX10_unpack_71 n) l1 l3 l4 S
theorem sLX10_unpack_71 (C : Cx p s m args meth c cX10_unpack 5 RX10 G) (hr : meth.sig.returnType = none) : ∀ (n : Nat) (l1 : Nat) (l3 : Int32) (l4 : Int32) (S : St) (res : St) (H : Heap) (locs : List Loc) (ls : Array Slot), kd l1 = 20 → Dy G S s H locs → lv_has ls 5 [(0, .ref (gR G 142)), (1, .ref (gR G l1)), (3, .int l3), (4, .int l4)] → LX10_unpack_71 n l1 l3 l4 S = some res → W p l e (rmL 3 0 0) s m args below meth c H locs 0 0 (MQ below (QV G res) args s 0 0 (Ab G)) (F0 m 71 ls []) := by
  intro n
  induction n with
  | zero => intro l1 l3 l4 S res H locs ls kl1 hd hl h; cases h
  | succ n ih =>
    intro l1 l3 l4 S res H locs ls kl1 hd hl h
    exact sKX10_unpack_71 C hr ih kl1 hd hl h
def KX10_unpack_23 (r23 : Nat → Int32 → Int32 → St → Option St) (l1 : Nat) (l3 : Int32) (l4 : Int32) (S : St) : Option St :=
  (if 6 ≤ l4 then vl (l3 + 12) fun x2 => (LX10_unpack_71 FU l1 x2 0 S) else rd S l1 (l3 + l4) fun x4 => wr S 158 l4 x4 fun S => rd S l1 ((l3 + 6) + l4) fun x6 => wr S 159 l4 x6 fun S => vl (l4 + 1) fun x7 => (r23 l1 l3 x7 S))
set_option maxHeartbeats 4000000 in
set_option maxRecDepth 20000 in
theorem sKX10_unpack_23 (C : Cx p s m args meth c cX10_unpack 5 RX10 G) (hr : meth.sig.returnType = none) {r23 : Nat → Int32 → Int32 → St → Option St} (hr23 : ∀ (l1 : Nat) (l3 : Int32) (l4 : Int32) (S : St) (res : St) (H : Heap) (locs : List Loc) (ls : Array Slot), kd l1 = 20 → Dy G S s H locs → lv_has ls 5 [(0, .ref (gR G 142)), (1, .ref (gR G l1)), (3, .int l3), (4, .int l4)] → r23 l1 l3 l4 S = some res → W p l e (rmL 3 0 0) s m args below meth c H locs 0 0 (MQ below (QV G res) args s 0 0 (Ab G)) (F0 m 23 ls [])) {l1 : Nat} {l3 : Int32} {l4 : Int32} {S : St} {res : St} {H : Heap} {locs : List Loc} {ls : Array Slot} (kl1 : kd l1 = 20) (hd : Dy G S s H locs) (hl : lv_has ls 5 [(0, .ref (gR G 142)), (1, .ref (gR G l1)), (3, .int l3), (4, .int l4)]) (h : KX10_unpack_23 r23 l1 l3 l4 S = some res) : W p l e (rmL 3 0 0) s m args below meth c H locs 0 0 (MQ below (QV G res) args s 0 0 (Ab G)) (F0 m 23 ls []) := by
  unfold KX10_unpack_23 at h
  have hx := C.1.1
  have hb := C.1.2.1
  refine lv_iload hx hb dX10_unpack_23 (lv_at hl 3 rfl) ?_
  refine lv_bipush (v := 6) hx hb dX10_unpack_25 (by decide) ?_
  refine lv_icmp_ge (tgt := 65) hx hb dX10_unpack_27 (by decide) (fun c1 => ?_) (fun c1 => ?_)
  · rw [if_pos c1] at h
    refine R_vi h (fun x2 ex2 h => ?_)
    refine lv_iinc (v := x2) (lv' := [(3, .int x2), (0, .ref (gR G 142)), (1, .ref (gR G l1)), (4, .int l4)]) hx hb dX10_unpack_65 hl (k := 2) rfl (by rw [ex2]; rfl) (by decide) rfl (fun ls hl => ?_)
    refine lv_iconst (v := 0) hx hb dX10_unpack_68 (by decide) ?_
    refine lv_istore (lv' := [(4, .int 0), (3, .int x2), (0, .ref (gR G 142)), (1, .ref (gR G l1))]) hx hb dX10_unpack_69 hl (by decide) rfl (fun ls hl => ?_)
    exact sLX10_unpack_71 C hr _ l1 x2 0 _ _ _ _ _ kl1 hd (lv_sub hl [2, 3, 1, 0] rfl) h
  · rw [if_neg c1] at h
    refine lv_aload_n hx hb dX10_unpack_30 rfl (lv_at hl 0 rfl) ?_
    refine gX10_81 C hd (rfl : kd 142 = 10) (q := 158) rfl dX10_unpack_31 (fun y3 => ?_)
    refine lv_iload hx hb dX10_unpack_34 (lv_at hl 3 rfl) ?_
    refine lv_aload_n hx hb dX10_unpack_36 rfl (lv_at hl 1 rfl) ?_
    refine lv_iload_n hx hb dX10_unpack_37 rfl (lv_at hl 2 rfl) ?_
    refine lv_iload hx hb dX10_unpack_38 (lv_at hl 3 rfl) ?_
    refine lv_iadd hx hb dX10_unpack_40 ?_
    refine R_iald C hd kl1 h dX10_unpack_41 (fun x4 h => ?_)
    refine R_iast C hd y3 h dX10_unpack_42 (fun S H locs hd h => ?_)
    refine lv_aload_n hx hb dX10_unpack_43 rfl (lv_at hl 0 rfl) ?_
    refine gX10_83 C hd (rfl : kd 142 = 10) (q := 159) rfl dX10_unpack_44 (fun y5 => ?_)
    refine lv_iload hx hb dX10_unpack_47 (lv_at hl 3 rfl) ?_
    refine lv_aload_n hx hb dX10_unpack_49 rfl (lv_at hl 1 rfl) ?_
    refine lv_iload_n hx hb dX10_unpack_50 rfl (lv_at hl 2 rfl) ?_
    refine lv_bipush (v := 6) hx hb dX10_unpack_51 (by decide) ?_
    refine lv_iadd hx hb dX10_unpack_53 ?_
    refine lv_iload hx hb dX10_unpack_54 (lv_at hl 3 rfl) ?_
    refine lv_iadd hx hb dX10_unpack_56 ?_
    refine R_iald C hd kl1 h dX10_unpack_57 (fun x6 h => ?_)
    refine R_iast C hd y5 h dX10_unpack_58 (fun S H locs hd h => ?_)
    refine R_vi h (fun x7 ex7 h => ?_)
    refine lv_iinc (v := x7) (lv' := [(4, .int x7), (0, .ref (gR G 142)), (1, .ref (gR G l1)), (3, .int l3)]) hx hb dX10_unpack_59 hl (k := 3) rfl (by rw [ex7]; rfl) (by decide) rfl (fun ls hl => ?_)
    refine lv_goto (tgt := 23) hx hb dX10_unpack_62 (by decide) ?_
    exact hr23 l1 l3 x7 _ _ _ _ _ kl1 hd (lv_sub hl [1, 2, 3, 0] rfl) h
def LX10_unpack_23 : Nat → Nat → Int32 → Int32 → St → Option St
  | 0 => fun _ _ _ _ => none
  | n + 1 => fun l1 l3 l4 S => KX10_unpack_23 (LX10_unpack_23 n) l1 l3 l4 S
theorem sLX10_unpack_23 (C : Cx p s m args meth c cX10_unpack 5 RX10 G) (hr : meth.sig.returnType = none) : ∀ (n : Nat) (l1 : Nat) (l3 : Int32) (l4 : Int32) (S : St) (res : St) (H : Heap) (locs : List Loc) (ls : Array Slot), kd l1 = 20 → Dy G S s H locs → lv_has ls 5 [(0, .ref (gR G 142)), (1, .ref (gR G l1)), (3, .int l3), (4, .int l4)] → LX10_unpack_23 n l1 l3 l4 S = some res → W p l e (rmL 3 0 0) s m args below meth c H locs 0 0 (MQ below (QV G res) args s 0 0 (Ab G)) (F0 m 23 ls []) := by
  intro n
  induction n with
  | zero => intro l1 l3 l4 S res H locs ls kl1 hd hl h; cases h
  | succ n ih =>
    intro l1 l3 l4 S res H locs ls kl1 hd hl h
    exact sKX10_unpack_23 C hr ih kl1 hd hl h
def fX10_unpack (a1 : Nat) (a2 : Int32) (S : St) : Option St :=
  rd S a1 a2 fun x1 => pf S 142 34 x1 fun S => rd S a1 (a2 + 1) fun x2 => pf S 142 35 x2 fun S => vl (a2 + 2) fun x3 => (LX10_unpack_23 FU a1 x3 0 S)
set_option maxHeartbeats 4000000 in
set_option maxRecDepth 20000 in
theorem sfX10_unpack (C : Cx p s m args meth c cX10_unpack 5 RX10 G) (hr : meth.sig.returnType = none) {a1 : Nat} {a2 : Int32} {S : St} {res : St} {H : Heap} {locs : List Loc} {ls : Array Slot} (k1 : kd a1 = 20) (hd : Dy G S s H locs) (hl : lv_has ls 5 [(0, .ref (gR G 142)), (1, .ref (gR G a1)), (2, .int a2)]) (h : fX10_unpack a1 a2 S = some res) : W p l e (rmL 3 0 0) s m args below meth c H locs 0 0 (MQ below (QV G res) args s 0 0 (Ab G)) (F0 m 0 ls []) := by
  unfold fX10_unpack at h
  have hx := C.1.1
  have hb := C.1.2.1
  refine lv_aload_n hx hb dX10_unpack_0 rfl (lv_at hl 0 rfl) ?_
  refine lv_aload_n hx hb dX10_unpack_1 rfl (lv_at hl 1 rfl) ?_
  refine lv_iload_n hx hb dX10_unpack_2 rfl (lv_at hl 2 rfl) ?_
  refine R_iald C hd k1 h dX10_unpack_3 (fun x1 h => ?_)
  refine pX10_338 C hd (rfl : kd 142 = 10) h dX10_unpack_4 (fun S H locs hd h => ?_)
  refine lv_aload_n hx hb dX10_unpack_7 rfl (lv_at hl 0 rfl) ?_
  refine lv_aload_n hx hb dX10_unpack_8 rfl (lv_at hl 1 rfl) ?_
  refine lv_iload_n hx hb dX10_unpack_9 rfl (lv_at hl 2 rfl) ?_
  refine lv_iconst (v := 1) hx hb dX10_unpack_10 (by decide) ?_
  refine lv_iadd hx hb dX10_unpack_11 ?_
  refine R_iald C hd k1 h dX10_unpack_12 (fun x2 h => ?_)
  refine pX10_340 C hd (rfl : kd 142 = 10) h dX10_unpack_13 (fun S H locs hd h => ?_)
  refine lv_iload_n hx hb dX10_unpack_16 rfl (lv_at hl 2 rfl) ?_
  refine lv_iconst (v := 2) hx hb dX10_unpack_17 (by decide) ?_
  refine lv_iadd hx hb dX10_unpack_18 ?_
  refine R_vl h (fun x3 h => ?_)
  refine lv_istore_n (lv' := [(3, .int x3), (0, .ref (gR G 142)), (1, .ref (gR G a1)), (2, .int a2)]) hx hb dX10_unpack_19 rfl hl (by decide) rfl (fun ls hl => ?_)
  refine lv_iconst (v := 0) hx hb dX10_unpack_20 (by decide) ?_
  refine lv_istore (lv' := [(4, .int 0), (3, .int x3), (0, .ref (gR G 142)), (1, .ref (gR G a1)), (2, .int a2)]) hx hb dX10_unpack_21 hl (by decide) rfl (fun ls hl => ?_)
  exact sLX10_unpack_23 C hr _ a1 x3 0 _ _ _ _ _ k1 hd (lv_sub hl [2, 3, 1, 0] rfl) h
set_option maxRecDepth 20000 in
theorem ccX10_unpack (l : Launch) (G : Gt) {a1 : Nat} {a2 : Int32} {S : St} {res : St} (k1 : kd a1 = 20) (h : fX10_unpack a1 a2 S = some res) : Met l yX10_unpack (wm yX10_unpack cX10_unpack 5 (none)) (rmL 3 0 0) (PcW G S [.ref (gR G 142), .ref (gR G a1), .int a2]) (QV G res) 0 0 (Ab G) := by
  refine Met.ofW (cc := cX10_unpack) (maxL := 5) (ret := none) (by decide) rfl ?_
  intro p e s m args below meth c s₁ B hml hv
  obtain ⟨rfl, hK, hP⟩ := hv
  have C : Cx p s m _ meth c cX10_unpack 5 RX10 G := ⟨⟨B.exec, B.bytes, hml, findClass_of_methodNamed B.named, fun w hw => atoms_spec (ws := wm yX10_unpack cX10_unpack 5 (none)) B.pre w (List.mem_cons_of_mem _ hw)⟩, B.notSynchronized, hK⟩
  have hl := lv_entry ([.ref (gR G 142), .ref (gR G a1), .int a2]) (n := 5) (Nat.le_of_ble_eq_true rfl)
  rw [lg_entry_eq]
  generalize (lg_sl ([.ref (gR G 142), .ref (gR G a1), .int a2]) ++ List.replicate (5 - (lg_sl ([.ref (gR G 142), .ref (gR G a1), .int a2])).length) Slot.unset).toArray = ls at hl ⊢
  exact sfX10_unpack C B.returns k1 ⟨hP, va_S.rf⟩ hl h
def fX10_reckon (a0 : Int32) (a1 : Int32) (a2 : Int32) (S : St) : Option (Int32 × St) :=
  (if a0 = (-26) then (if a1 = 0 then ri 0 S else (if a2 = 0 then ri 0 S else ri 1 S)) else (if a0 = (-25) then (if a1 = a2 then ri 1 S else ri 0 S) else (if a0 = (-24) then (if a2 ≤ a1 then ri 0 S else ri 1 S) else (if a0 = (-23) then (if a2 = 0 then ri 0 S else dv a1 a2 fun x10 => ri x10 S) else (if a0 = (-22) then ri (a1 * a2) S else (if a0 = (-21) then ri (a1 - a2) S else (if a0 = (-20) then ri (a1 + a2) S else (if a1 = 0 then (if a2 = 0 then ri 0 S else ri 1 S) else ri 1 S))))))))
set_option maxHeartbeats 4000000 in
set_option maxRecDepth 20000 in
theorem sfX10_reckon (C : Cx p s m args meth c cX10_reckon 3 RX10 G) (hr : meth.sig.returnType = some .int) {a0 : Int32} {a1 : Int32} {a2 : Int32} {S : St} {res : (Int32 × St)} {H : Heap} {locs : List Loc} {ls : Array Slot}  (hd : Dy G S s H locs) (hl : lv_has ls 3 [(0, .int a0), (1, .int a1), (2, .int a2)]) (h : fX10_reckon a0 a1 a2 S = some res) : W p l e (rmL 3 0 0) s m args below meth c H locs 0 0 (MQ below (QI G res.1 res.2) args s 0 0 (Ab G)) (F0 m 0 ls []) := by
  unfold fX10_reckon at h
  have hx := C.1.1
  have hb := C.1.2.1
  refine lv_iload_n hx hb dX10_reckon_0 rfl (lv_at hl 0 rfl) ?_
  by_cases c1 : a0 = (-26)
  · rw [if_pos c1] at h
    refine lv_tableIn (tgt := 90) hx hb dX10_reckon_1 (by rw [c1]; decide) (by rw [c1]; decide) (by rw [c1] <;> rfl) (by decide) ?_
    refine lv_iload_n hx hb dX10_reckon_90 rfl (lv_at hl 1 rfl) ?_
    refine lv_if_eq (tgt := 102) hx hb dX10_reckon_91 (by decide) (fun c2 => ?_) (fun c2 => ?_)
    · rw [if_pos c2] at h
      refine lv_iconst (v := 0) hx hb dX10_reckon_102 (by decide) ?_
      exact R_iret C hr hd h dX10_reckon_103
    · rw [if_neg c2] at h
      refine lv_iload_n hx hb dX10_reckon_94 rfl (lv_at hl 2 rfl) ?_
      refine lv_if_eq (tgt := 102) hx hb dX10_reckon_95 (by decide) (fun c3 => ?_) (fun c3 => ?_)
      · rw [if_pos c3] at h
        refine lv_iconst (v := 0) hx hb dX10_reckon_102 (by decide) ?_
        exact R_iret C hr hd h dX10_reckon_103
      · rw [if_neg c3] at h
        refine lv_iconst (v := 1) hx hb dX10_reckon_98 (by decide) ?_
        refine lv_goto (tgt := 103) hx hb dX10_reckon_99 (by decide) ?_
        exact R_iret C hr hd h dX10_reckon_103
  rw [if_neg c1] at h
  by_cases c4 : a0 = (-25)
  · rw [if_pos c4] at h
    refine lv_tableIn (tgt := 79) hx hb dX10_reckon_1 (by rw [c4]; decide) (by rw [c4]; decide) (by rw [c4] <;> rfl) (by decide) ?_
    refine lv_iload_n hx hb dX10_reckon_79 rfl (lv_at hl 1 rfl) ?_
    refine lv_iload_n hx hb dX10_reckon_80 rfl (lv_at hl 2 rfl) ?_
    refine lv_icmp_ne (tgt := 88) hx hb dX10_reckon_81 (by decide) (fun c5 => ?_) (fun c5 => ?_)
    · rw [if_neg c5] at h
      refine lv_iconst (v := 0) hx hb dX10_reckon_88 (by decide) ?_
      exact R_iret C hr hd h dX10_reckon_89
    · rw [if_pos c5] at h
      refine lv_iconst (v := 1) hx hb dX10_reckon_84 (by decide) ?_
      refine lv_goto (tgt := 89) hx hb dX10_reckon_85 (by decide) ?_
      exact R_iret C hr hd h dX10_reckon_89
  rw [if_neg c4] at h
  by_cases c6 : a0 = (-24)
  · rw [if_pos c6] at h
    refine lv_tableIn (tgt := 68) hx hb dX10_reckon_1 (by rw [c6]; decide) (by rw [c6]; decide) (by rw [c6] <;> rfl) (by decide) ?_
    refine lv_iload_n hx hb dX10_reckon_68 rfl (lv_at hl 1 rfl) ?_
    refine lv_iload_n hx hb dX10_reckon_69 rfl (lv_at hl 2 rfl) ?_
    refine lv_icmp_ge (tgt := 77) hx hb dX10_reckon_70 (by decide) (fun c7 => ?_) (fun c7 => ?_)
    · rw [if_pos c7] at h
      refine lv_iconst (v := 0) hx hb dX10_reckon_77 (by decide) ?_
      exact R_iret C hr hd h dX10_reckon_78
    · rw [if_neg c7] at h
      refine lv_iconst (v := 1) hx hb dX10_reckon_73 (by decide) ?_
      refine lv_goto (tgt := 78) hx hb dX10_reckon_74 (by decide) ?_
      exact R_iret C hr hd h dX10_reckon_78
  rw [if_neg c6] at h
  by_cases c8 : a0 = (-23)
  · rw [if_pos c8] at h
    refine lv_tableIn (tgt := 56) hx hb dX10_reckon_1 (by rw [c8]; decide) (by rw [c8]; decide) (by rw [c8] <;> rfl) (by decide) ?_
    refine lv_iload_n hx hb dX10_reckon_56 rfl (lv_at hl 2 rfl) ?_
    refine lv_if_ne (tgt := 64) hx hb dX10_reckon_57 (by decide) (fun c9 => ?_) (fun c9 => ?_)
    · rw [if_neg c9] at h
      refine lv_iload_n hx hb dX10_reckon_64 rfl (lv_at hl 1 rfl) ?_
      refine lv_iload_n hx hb dX10_reckon_65 rfl (lv_at hl 2 rfl) ?_
      refine R_div C h dX10_reckon_66 (fun x10 h => ?_)
      exact R_iret C hr hd h dX10_reckon_67
    · rw [if_pos c9] at h
      refine lv_iconst (v := 0) hx hb dX10_reckon_60 (by decide) ?_
      refine lv_goto (tgt := 67) hx hb dX10_reckon_61 (by decide) ?_
      exact R_iret C hr hd h dX10_reckon_67
  rw [if_neg c8] at h
  by_cases c11 : a0 = (-22)
  · rw [if_pos c11] at h
    refine lv_tableIn (tgt := 52) hx hb dX10_reckon_1 (by rw [c11]; decide) (by rw [c11]; decide) (by rw [c11] <;> rfl) (by decide) ?_
    refine lv_iload_n hx hb dX10_reckon_52 rfl (lv_at hl 1 rfl) ?_
    refine lv_iload_n hx hb dX10_reckon_53 rfl (lv_at hl 2 rfl) ?_
    refine lv_imul hx hb dX10_reckon_54 ?_
    exact R_iret C hr hd h dX10_reckon_55
  rw [if_neg c11] at h
  by_cases c12 : a0 = (-21)
  · rw [if_pos c12] at h
    refine lv_tableIn (tgt := 48) hx hb dX10_reckon_1 (by rw [c12]; decide) (by rw [c12]; decide) (by rw [c12] <;> rfl) (by decide) ?_
    refine lv_iload_n hx hb dX10_reckon_48 rfl (lv_at hl 1 rfl) ?_
    refine lv_iload_n hx hb dX10_reckon_49 rfl (lv_at hl 2 rfl) ?_
    refine lv_isub hx hb dX10_reckon_50 ?_
    exact R_iret C hr hd h dX10_reckon_51
  rw [if_neg c12] at h
  by_cases c13 : a0 = (-20)
  · rw [if_pos c13] at h
    refine lv_tableIn (tgt := 44) hx hb dX10_reckon_1 (by rw [c13]; decide) (by rw [c13]; decide) (by rw [c13] <;> rfl) (by decide) ?_
    refine lv_iload_n hx hb dX10_reckon_44 rfl (lv_at hl 1 rfl) ?_
    refine lv_iload_n hx hb dX10_reckon_45 rfl (lv_at hl 2 rfl) ?_
    refine lv_iadd hx hb dX10_reckon_46 ?_
    exact R_iret C hr hd h dX10_reckon_47
  rw [if_neg c13] at h
  refine R_tab (tgt := 104) C dX10_reckon_1 (by decide) [-26, -25, -24, -23, -22, -21, -20] (by decide) ?_ ?_
  · intro z hz; simp only [List.mem_cons, List.not_mem_nil, or_false] at hz; rcases hz with rfl | rfl | rfl | rfl | rfl | rfl | rfl <;> assumption
  refine lv_iload_n hx hb dX10_reckon_104 rfl (lv_at hl 1 rfl) ?_
  refine lv_if_ne (tgt := 112) hx hb dX10_reckon_105 (by decide) (fun c14 => ?_) (fun c14 => ?_)
  · rw [if_neg c14] at h
    refine lv_iconst (v := 1) hx hb dX10_reckon_112 (by decide) ?_
    refine lv_goto (tgt := 117) hx hb dX10_reckon_113 (by decide) ?_
    exact R_iret C hr hd h dX10_reckon_117
  · rw [if_pos c14] at h
    refine lv_iload_n hx hb dX10_reckon_108 rfl (lv_at hl 2 rfl) ?_
    refine lv_if_eq (tgt := 116) hx hb dX10_reckon_109 (by decide) (fun c15 => ?_) (fun c15 => ?_)
    · rw [if_pos c15] at h
      refine lv_iconst (v := 0) hx hb dX10_reckon_116 (by decide) ?_
      exact R_iret C hr hd h dX10_reckon_117
    · rw [if_neg c15] at h
      refine lv_iconst (v := 1) hx hb dX10_reckon_112 (by decide) ?_
      refine lv_goto (tgt := 117) hx hb dX10_reckon_113 (by decide) ?_
      exact R_iret C hr hd h dX10_reckon_117
set_option maxRecDepth 20000 in
theorem ccX10_reckon (l : Launch) (G : Gt) {a0 : Int32} {a1 : Int32} {a2 : Int32} {S : St} {res : (Int32 × St)}  (h : fX10_reckon a0 a1 a2 S = some res) : Met l yX10_reckon (wm yX10_reckon cX10_reckon 3 (some .int)) (rmL 3 0 0) (PcW G S [.int a0, .int a1, .int a2]) (QI G res.1 res.2) 0 0 (Ab G) := by
  refine Met.ofW (cc := cX10_reckon) (maxL := 3) (ret := (some .int)) (by decide) rfl ?_
  intro p e s m args below meth c s₁ B hml hv
  obtain ⟨rfl, hK, hP⟩ := hv
  have C : Cx p s m _ meth c cX10_reckon 3 RX10 G := ⟨⟨B.exec, B.bytes, hml, findClass_of_methodNamed B.named, fun w hw => atoms_spec (ws := wm yX10_reckon cX10_reckon 3 (some .int)) B.pre w (List.mem_cons_of_mem _ hw)⟩, B.notSynchronized, hK⟩
  have hl := lv_entry ([.int a0, .int a1, .int a2]) (n := 3) (Nat.le_of_ble_eq_true rfl)
  rw [lg_entry_eq]
  generalize (lg_sl ([.int a0, .int a1, .int a2]) ++ List.replicate (3 - (lg_sl ([.int a0, .int a1, .int a2])).length) Slot.unset).toArray = ls at hl ⊢
  exact sfX10_reckon C B.returns  ⟨hP, va_S.rf⟩ hl h
def BX10_valueNow_119 (r5 : Nat → Int32 → Int32 → Int32 → St → Option (Int32 × St)) (l1 : Nat) (l2 : Int32) (l3 : Int32) (l4 : Int32) (S : St) : Option (Int32 × St) :=
  vl (l4 + 1) fun x1 => (r5 l1 l2 l3 x1 S)
set_option maxHeartbeats 4000000 in
set_option maxRecDepth 20000 in
theorem sBX10_valueNow_119 (C : Cx p s m args meth c cX10_valueNow 6 RX10 G) (hr : meth.sig.returnType = some .int) {r5 : Nat → Int32 → Int32 → Int32 → St → Option (Int32 × St)} (hr5 : ∀ (l1 : Nat) (l2 : Int32) (l3 : Int32) (l4 : Int32) (S : St) (res : (Int32 × St)) (H : Heap) (locs : List Loc) (ls : Array Slot), kd l1 = 20 → Dy G S s H locs → lv_has ls 6 [(0, .ref (gR G 142)), (1, .ref (gR G l1)), (2, .int l2), (3, .int l3), (4, .int l4)] → r5 l1 l2 l3 l4 S = some res → W p l e (rmL 4 0 0) s m args below meth c H locs 0 0 (MQ below (QI G res.1 res.2) args s 0 0 (Ab G)) (F0 m 5 ls [])) {l1 : Nat} {l2 : Int32} {l3 : Int32} {l4 : Int32} {S : St} {res : (Int32 × St)} {H : Heap} {locs : List Loc} {ls : Array Slot} (kl1 : kd l1 = 20) (hd : Dy G S s H locs) (hl : lv_has ls 6 [(0, .ref (gR G 142)), (1, .ref (gR G l1)), (2, .int l2), (3, .int l3), (4, .int l4)]) (h : BX10_valueNow_119 r5 l1 l2 l3 l4 S = some res) : W p l e (rmL 4 0 0) s m args below meth c H locs 0 0 (MQ below (QI G res.1 res.2) args s 0 0 (Ab G)) (F0 m 119 ls []) := by
  unfold BX10_valueNow_119 at h
  have hx := C.1.1
  have hb := C.1.2.1
  refine R_vi h (fun x1 ex1 h => ?_)
  refine lv_iinc (v := x1) (lv' := [(4, .int x1), (0, .ref (gR G 142)), (1, .ref (gR G l1)), (2, .int l2), (3, .int l3)]) hx hb dX10_valueNow_119 hl (k := 4) rfl (by rw [ex1]; rfl) (by decide) rfl (fun ls hl => ?_)
  refine lv_goto (tgt := 5) hx hb dX10_valueNow_122 (by decide) ?_
  exact hr5 l1 l2 l3 x1 _ _ _ _ _ kl1 hd (lv_sub hl [1, 2, 3, 4, 0] rfl) h
def BX10_valueNow_85 (r5 : Nat → Int32 → Int32 → Int32 → St → Option (Int32 × St)) (l1 : Nat) (l2 : Int32) (l3 : Int32) (l4 : Int32) (s1 : Int32) (s2 : Int32) (S : St) : Option (Int32 × St) :=
  wr S 166 s1 s2 fun S => (BX10_valueNow_119 r5 l1 l2 l3 l4 S)
set_option maxHeartbeats 4000000 in
set_option maxRecDepth 20000 in
theorem sBX10_valueNow_85 (C : Cx p s m args meth c cX10_valueNow 6 RX10 G) (hr : meth.sig.returnType = some .int) {r5 : Nat → Int32 → Int32 → Int32 → St → Option (Int32 × St)} (hr5 : ∀ (l1 : Nat) (l2 : Int32) (l3 : Int32) (l4 : Int32) (S : St) (res : (Int32 × St)) (H : Heap) (locs : List Loc) (ls : Array Slot), kd l1 = 20 → Dy G S s H locs → lv_has ls 6 [(0, .ref (gR G 142)), (1, .ref (gR G l1)), (2, .int l2), (3, .int l3), (4, .int l4)] → r5 l1 l2 l3 l4 S = some res → W p l e (rmL 4 0 0) s m args below meth c H locs 0 0 (MQ below (QI G res.1 res.2) args s 0 0 (Ab G)) (F0 m 5 ls [])) {l1 : Nat} {l2 : Int32} {l3 : Int32} {l4 : Int32} {s1 : Int32} {s2 : Int32} {S : St} {res : (Int32 × St)} {H : Heap} {locs : List Loc} {ls : Array Slot} (kl1 : kd l1 = 20) (hd : Dy G S s H locs) (hl : lv_has ls 6 [(0, .ref (gR G 142)), (1, .ref (gR G l1)), (2, .int l2), (3, .int l3), (4, .int l4)]) (h : BX10_valueNow_85 r5 l1 l2 l3 l4 s1 s2 S = some res) : W p l e (rmL 4 0 0) s m args below meth c H locs 0 0 (MQ below (QI G res.1 res.2) args s 0 0 (Ab G)) (F0 m 85 ls [.int s2, .int s1, .ref (gR G 166)]) := by
  unfold BX10_valueNow_85 at h
  have hx := C.1.1
  have hb := C.1.2.1
  refine R_iast C hd (rfl : kd 166 = 20) h dX10_valueNow_85 (fun S H locs hd h => ?_)
  refine lv_goto (tgt := 119) hx hb dX10_valueNow_86 (by decide) ?_
  exact sBX10_valueNow_119 C hr hr5 kl1 hd (lv_sub hl [0, 1, 2, 3, 4] rfl) h
def BX10_valueNow_48 (r5 : Nat → Int32 → Int32 → Int32 → St → Option (Int32 × St)) (l1 : Nat) (l2 : Int32) (l3 : Int32) (l4 : Int32) (s1 : Int32) (s2 : Int32) (S : St) : Option (Int32 × St) :=
  wr S 166 s1 s2 fun S => vl (l3 + 1) fun x1 => (BX10_valueNow_119 r5 l1 l2 x1 l4 S)
set_option maxHeartbeats 4000000 in
set_option maxRecDepth 20000 in
theorem sBX10_valueNow_48 (C : Cx p s m args meth c cX10_valueNow 6 RX10 G) (hr : meth.sig.returnType = some .int) {r5 : Nat → Int32 → Int32 → Int32 → St → Option (Int32 × St)} (hr5 : ∀ (l1 : Nat) (l2 : Int32) (l3 : Int32) (l4 : Int32) (S : St) (res : (Int32 × St)) (H : Heap) (locs : List Loc) (ls : Array Slot), kd l1 = 20 → Dy G S s H locs → lv_has ls 6 [(0, .ref (gR G 142)), (1, .ref (gR G l1)), (2, .int l2), (3, .int l3), (4, .int l4)] → r5 l1 l2 l3 l4 S = some res → W p l e (rmL 4 0 0) s m args below meth c H locs 0 0 (MQ below (QI G res.1 res.2) args s 0 0 (Ab G)) (F0 m 5 ls [])) {l1 : Nat} {l2 : Int32} {l3 : Int32} {l4 : Int32} {s1 : Int32} {s2 : Int32} {S : St} {res : (Int32 × St)} {H : Heap} {locs : List Loc} {ls : Array Slot} (kl1 : kd l1 = 20) (hd : Dy G S s H locs) (hl : lv_has ls 6 [(0, .ref (gR G 142)), (1, .ref (gR G l1)), (2, .int l2), (3, .int l3), (4, .int l4)]) (h : BX10_valueNow_48 r5 l1 l2 l3 l4 s1 s2 S = some res) : W p l e (rmL 4 0 0) s m args below meth c H locs 0 0 (MQ below (QI G res.1 res.2) args s 0 0 (Ab G)) (F0 m 48 ls [.int s2, .int s1, .ref (gR G 166)]) := by
  unfold BX10_valueNow_48 at h
  have hx := C.1.1
  have hb := C.1.2.1
  refine R_iast C hd (rfl : kd 166 = 20) h dX10_valueNow_48 (fun S H locs hd h => ?_)
  refine R_vi h (fun x1 ex1 h => ?_)
  refine lv_iinc (v := x1) (lv' := [(3, .int x1), (0, .ref (gR G 142)), (1, .ref (gR G l1)), (2, .int l2), (4, .int l4)]) hx hb dX10_valueNow_49 hl (k := 3) rfl (by rw [ex1]; rfl) (by decide) rfl (fun ls hl => ?_)
  refine lv_goto (tgt := 119) hx hb dX10_valueNow_52 (by decide) ?_
  exact sBX10_valueNow_119 C hr hr5 kl1 hd (lv_sub hl [1, 2, 3, 0, 4] rfl) h
def KX10_valueNow_5 (r5 : Nat → Int32 → Int32 → Int32 → St → Option (Int32 × St)) (l1 : Nat) (l2 : Int32) (l3 : Int32) (l4 : Int32) (S : St) : Option (Int32 × St) :=
  (if l2 ≤ l4 then rd S 166 0 fun x3 => ri x3 S else rd S l1 l4 fun x4 => (if x4 ≤ (-20) then (if x4 = (-28) then rd S 166 (l3 - 1) fun x16 => (if x16 = 0 then (BX10_valueNow_85 r5 l1 l2 l3 l4 (l3 - 1) 1 S) else (BX10_valueNow_85 r5 l1 l2 l3 l4 (l3 - 1) 0 S)) else vl (l3 + (-1)) fun x7 => rd S 166 (x7 - 1) fun x10 => rd S 166 x7 fun x12 => bd (fX10_reckon x4 x10 x12 S) fun x13 S => wr S 166 (x7 - 1) x13 fun S => (BX10_valueNow_119 r5 l1 l2 x7 l4 S)) else (if x4 < 0 then rd S 165 ((-1) - x4) fun x21 => (BX10_valueNow_48 r5 l1 l2 l3 l4 l3 x21 S) else (BX10_valueNow_48 r5 l1 l2 l3 l4 l3 x4 S))))
set_option maxHeartbeats 4000000 in
set_option maxRecDepth 20000 in
theorem sKX10_valueNow_5 (C : Cx p s m args meth c cX10_valueNow 6 RX10 G) (hr : meth.sig.returnType = some .int) {r5 : Nat → Int32 → Int32 → Int32 → St → Option (Int32 × St)} (hr5 : ∀ (l1 : Nat) (l2 : Int32) (l3 : Int32) (l4 : Int32) (S : St) (res : (Int32 × St)) (H : Heap) (locs : List Loc) (ls : Array Slot), kd l1 = 20 → Dy G S s H locs → lv_has ls 6 [(0, .ref (gR G 142)), (1, .ref (gR G l1)), (2, .int l2), (3, .int l3), (4, .int l4)] → r5 l1 l2 l3 l4 S = some res → W p l e (rmL 4 0 0) s m args below meth c H locs 0 0 (MQ below (QI G res.1 res.2) args s 0 0 (Ab G)) (F0 m 5 ls [])) {l1 : Nat} {l2 : Int32} {l3 : Int32} {l4 : Int32} {S : St} {res : (Int32 × St)} {H : Heap} {locs : List Loc} {ls : Array Slot} (kl1 : kd l1 = 20) (hd : Dy G S s H locs) (hl : lv_has ls 6 [(0, .ref (gR G 142)), (1, .ref (gR G l1)), (2, .int l2), (3, .int l3), (4, .int l4)]) (h : KX10_valueNow_5 r5 l1 l2 l3 l4 S = some res) : W p l e (rmL 4 0 0) s m args below meth c H locs 0 0 (MQ below (QI G res.1 res.2) args s 0 0 (Ab G)) (F0 m 5 ls []) := by
  unfold KX10_valueNow_5 at h
  have hx := C.1.1
  have hb := C.1.2.1
  refine lv_iload hx hb dX10_valueNow_5 (lv_at hl 4 rfl) ?_
  refine lv_iload_n hx hb dX10_valueNow_7 rfl (lv_at hl 2 rfl) ?_
  refine lv_icmp_ge (tgt := 125) hx hb dX10_valueNow_8 (by decide) (fun c1 => ?_) (fun c1 => ?_)
  · rw [if_pos c1] at h
    refine lv_aload_n hx hb dX10_valueNow_125 rfl (lv_at hl 0 rfl) ?_
    refine gX10_104 C hd (rfl : kd 142 = 10) (q := 166) rfl dX10_valueNow_126 (fun y2 => ?_)
    refine lv_iconst (v := 0) hx hb dX10_valueNow_129 (by decide) ?_
    refine R_iald C hd y2 h dX10_valueNow_130 (fun x3 h => ?_)
    exact R_iret C hr hd h dX10_valueNow_131
  · rw [if_neg c1] at h
    refine lv_aload_n hx hb dX10_valueNow_11 rfl (lv_at hl 1 rfl) ?_
    refine lv_iload hx hb dX10_valueNow_12 (lv_at hl 4 rfl) ?_
    refine R_iald C hd kl1 h dX10_valueNow_14 (fun x4 h => ?_)
    refine lv_istore (lv' := [(5, .int x4), (0, .ref (gR G 142)), (1, .ref (gR G l1)), (2, .int l2), (3, .int l3), (4, .int l4)]) hx hb dX10_valueNow_15 hl (by decide) rfl (fun ls hl => ?_)
    refine lv_iload hx hb dX10_valueNow_17 (lv_at hl 0 rfl) ?_
    refine lv_bipush (v := -20) hx hb dX10_valueNow_19 (by decide) ?_
    refine lv_icmp_le (tgt := 55) hx hb dX10_valueNow_21 (by decide) (fun c5 => ?_) (fun c5 => ?_)
    · rw [if_pos c5] at h
      refine lv_iload hx hb dX10_valueNow_55 (lv_at hl 0 rfl) ?_
      refine lv_bipush (v := -28) hx hb dX10_valueNow_57 (by decide) ?_
      refine lv_icmp_ne (tgt := 89) hx hb dX10_valueNow_59 (by decide) (fun c6 => ?_) (fun c6 => ?_)
      · rw [if_neg c6] at h
        refine R_vi h (fun x7 ex7 h => ?_)
        refine lv_iinc (v := x7) (lv' := [(3, .int x7), (5, .int x4), (0, .ref (gR G 142)), (1, .ref (gR G l1)), (2, .int l2), (4, .int l4)]) hx hb dX10_valueNow_89 hl (k := 4) rfl (by rw [ex7]; rfl) (by decide) rfl (fun ls hl => ?_)
        refine lv_aload_n hx hb dX10_valueNow_92 rfl (lv_at hl 2 rfl) ?_
        refine gX10_104 C hd (rfl : kd 142 = 10) (q := 166) rfl dX10_valueNow_93 (fun y8 => ?_)
        refine lv_iload_n hx hb dX10_valueNow_96 rfl (lv_at hl 0 rfl) ?_
        refine lv_iconst (v := 1) hx hb dX10_valueNow_97 (by decide) ?_
        refine lv_isub hx hb dX10_valueNow_98 ?_
        refine lv_iload hx hb dX10_valueNow_99 (lv_at hl 1 rfl) ?_
        refine lv_aload_n hx hb dX10_valueNow_101 rfl (lv_at hl 2 rfl) ?_
        refine gX10_104 C hd (rfl : kd 142 = 10) (q := 166) rfl dX10_valueNow_102 (fun y9 => ?_)
        refine lv_iload_n hx hb dX10_valueNow_105 rfl (lv_at hl 0 rfl) ?_
        refine lv_iconst (v := 1) hx hb dX10_valueNow_106 (by decide) ?_
        refine lv_isub hx hb dX10_valueNow_107 ?_
        refine R_iald C hd y9 h dX10_valueNow_108 (fun x10 h => ?_)
        refine lv_aload_n hx hb dX10_valueNow_109 rfl (lv_at hl 2 rfl) ?_
        refine gX10_104 C hd (rfl : kd 142 = 10) (q := 166) rfl dX10_valueNow_110 (fun y11 => ?_)
        refine lv_iload_n hx hb dX10_valueNow_113 rfl (lv_at hl 0 rfl) ?_
        refine R_iald C hd y11 h dX10_valueNow_114 (fun x12 h => ?_)
        obtain ⟨x13, S1, hc, h⟩ := bd_some h
        refine R_cSi C hd (ccX10_reckon l G  hc) kX10_355  hl.1 ⟨by decide, by decide⟩ rfl rfl (Nat.le_of_ble_eq_true rfl) dX10_valueNow_115 ⟨Nat.zero_le _, Nat.zero_le _⟩ (fun H locs hd => ?_)
        generalize S1 = S at h hd
        refine R_iast C hd y8 h dX10_valueNow_118 (fun S H locs hd h => ?_)
        exact sBX10_valueNow_119 C hr hr5 kl1 hd (lv_sub hl [2, 3, 4, 0, 5] rfl) h
      · rw [if_pos c6] at h
        refine lv_aload_n hx hb dX10_valueNow_62 rfl (lv_at hl 1 rfl) ?_
        refine gX10_104 C hd (rfl : kd 142 = 10) (q := 166) rfl dX10_valueNow_63 (fun y14 => ?_)
        refine lv_iload_n hx hb dX10_valueNow_66 rfl (lv_at hl 4 rfl) ?_
        refine lv_iconst (v := 1) hx hb dX10_valueNow_67 (by decide) ?_
        refine lv_isub hx hb dX10_valueNow_68 ?_
        refine lv_aload_n hx hb dX10_valueNow_69 rfl (lv_at hl 1 rfl) ?_
        refine gX10_104 C hd (rfl : kd 142 = 10) (q := 166) rfl dX10_valueNow_70 (fun y15 => ?_)
        refine lv_iload_n hx hb dX10_valueNow_73 rfl (lv_at hl 4 rfl) ?_
        refine lv_iconst (v := 1) hx hb dX10_valueNow_74 (by decide) ?_
        refine lv_isub hx hb dX10_valueNow_75 ?_
        refine R_iald C hd y15 h dX10_valueNow_76 (fun x16 h => ?_)
        refine lv_if_eq (tgt := 84) hx hb dX10_valueNow_77 (by decide) (fun c17 => ?_) (fun c17 => ?_)
        · rw [if_pos c17] at h
          refine lv_iconst (v := 1) hx hb dX10_valueNow_84 (by decide) ?_
          exact sBX10_valueNow_85 C hr hr5 kl1 hd (lv_sub hl [1, 2, 3, 4, 5] rfl) h
        · rw [if_neg c17] at h
          refine lv_iconst (v := 0) hx hb dX10_valueNow_80 (by decide) ?_
          refine lv_goto (tgt := 85) hx hb dX10_valueNow_81 (by decide) ?_
          exact sBX10_valueNow_85 C hr hr5 kl1 hd (lv_sub hl [1, 2, 3, 4, 5] rfl) h
    · rw [if_neg c5] at h
      refine lv_aload_n hx hb dX10_valueNow_24 rfl (lv_at hl 1 rfl) ?_
      refine gX10_104 C hd (rfl : kd 142 = 10) (q := 166) rfl dX10_valueNow_25 (fun y18 => ?_)
      refine lv_iload_n hx hb dX10_valueNow_28 rfl (lv_at hl 4 rfl) ?_
      refine lv_iload hx hb dX10_valueNow_29 (lv_at hl 0 rfl) ?_
      refine lv_if_lt (tgt := 39) hx hb dX10_valueNow_31 (by decide) (fun c19 => ?_) (fun c19 => ?_)
      · rw [if_pos c19] at h
        refine lv_aload_n hx hb dX10_valueNow_39 rfl (lv_at hl 1 rfl) ?_
        refine gX10_101 C hd (rfl : kd 142 = 10) (q := 165) rfl dX10_valueNow_40 (fun y20 => ?_)
        refine lv_iconst (v := -1) hx hb dX10_valueNow_43 (by decide) ?_
        refine lv_iload hx hb dX10_valueNow_44 (lv_at hl 0 rfl) ?_
        refine lv_isub hx hb dX10_valueNow_46 ?_
        refine R_iald C hd y20 h dX10_valueNow_47 (fun x21 h => ?_)
        exact sBX10_valueNow_48 C hr hr5 kl1 hd (lv_sub hl [1, 2, 3, 4, 5] rfl) h
      · rw [if_neg c19] at h
        refine lv_iload hx hb dX10_valueNow_34 (lv_at hl 0 rfl) ?_
        refine lv_goto (tgt := 48) hx hb dX10_valueNow_36 (by decide) ?_
        exact sBX10_valueNow_48 C hr hr5 kl1 hd (lv_sub hl [1, 2, 3, 4, 5] rfl) h
def LX10_valueNow_5 : Nat → Nat → Int32 → Int32 → Int32 → St → Option (Int32 × St)
  | 0 => fun _ _ _ _ _ => none
  | n + 1 => fun l1 l2 l3 l4 S => KX10_valueNow_5 (LX10_valueNow_5 n) l1 l2 l3 l4 S
theorem sLX10_valueNow_5 (C : Cx p s m args meth c cX10_valueNow 6 RX10 G) (hr : meth.sig.returnType = some .int) : ∀ (n : Nat) (l1 : Nat) (l2 : Int32) (l3 : Int32) (l4 : Int32) (S : St) (res : (Int32 × St)) (H : Heap) (locs : List Loc) (ls : Array Slot), kd l1 = 20 → Dy G S s H locs → lv_has ls 6 [(0, .ref (gR G 142)), (1, .ref (gR G l1)), (2, .int l2), (3, .int l3), (4, .int l4)] → LX10_valueNow_5 n l1 l2 l3 l4 S = some res → W p l e (rmL 4 0 0) s m args below meth c H locs 0 0 (MQ below (QI G res.1 res.2) args s 0 0 (Ab G)) (F0 m 5 ls []) := by
  intro n
  induction n with
  | zero => intro l1 l2 l3 l4 S res H locs ls kl1 hd hl h; cases h
  | succ n ih =>
    intro l1 l2 l3 l4 S res H locs ls kl1 hd hl h
    exact sKX10_valueNow_5 C hr ih kl1 hd hl h
def fX10_valueNow (a1 : Nat) (a2 : Int32) (S : St) : Option (Int32 × St) :=
  (LX10_valueNow_5 FU a1 a2 0 0 S)
set_option maxHeartbeats 4000000 in
set_option maxRecDepth 20000 in
theorem sfX10_valueNow (C : Cx p s m args meth c cX10_valueNow 6 RX10 G) (hr : meth.sig.returnType = some .int) {a1 : Nat} {a2 : Int32} {S : St} {res : (Int32 × St)} {H : Heap} {locs : List Loc} {ls : Array Slot} (k1 : kd a1 = 20) (hd : Dy G S s H locs) (hl : lv_has ls 6 [(0, .ref (gR G 142)), (1, .ref (gR G a1)), (2, .int a2)]) (h : fX10_valueNow a1 a2 S = some res) : W p l e (rmL 4 0 0) s m args below meth c H locs 0 0 (MQ below (QI G res.1 res.2) args s 0 0 (Ab G)) (F0 m 0 ls []) := by
  unfold fX10_valueNow at h
  have hx := C.1.1
  have hb := C.1.2.1
  refine lv_iconst (v := 0) hx hb dX10_valueNow_0 (by decide) ?_
  refine lv_istore_n (lv' := [(3, .int 0), (0, .ref (gR G 142)), (1, .ref (gR G a1)), (2, .int a2)]) hx hb dX10_valueNow_1 rfl hl (by decide) rfl (fun ls hl => ?_)
  refine lv_iconst (v := 0) hx hb dX10_valueNow_2 (by decide) ?_
  refine lv_istore (lv' := [(4, .int 0), (3, .int 0), (0, .ref (gR G 142)), (1, .ref (gR G a1)), (2, .int a2)]) hx hb dX10_valueNow_3 hl (by decide) rfl (fun ls hl => ?_)
  exact sLX10_valueNow_5 C hr _ a1 a2 0 0 _ _ _ _ _ k1 hd (lv_sub hl [2, 3, 4, 1, 0] rfl) h
set_option maxRecDepth 20000 in
theorem ccX10_valueNow (l : Launch) (G : Gt) {a1 : Nat} {a2 : Int32} {S : St} {res : (Int32 × St)} (k1 : kd a1 = 20) (h : fX10_valueNow a1 a2 S = some res) : Met l yX10_valueNow (wm yX10_valueNow cX10_valueNow 6 (some .int)) (rmL 4 0 0) (PcW G S [.ref (gR G 142), .ref (gR G a1), .int a2]) (QI G res.1 res.2) 0 0 (Ab G) := by
  refine Met.ofW (cc := cX10_valueNow) (maxL := 6) (ret := (some .int)) (by decide) rfl ?_
  intro p e s m args below meth c s₁ B hml hv
  obtain ⟨rfl, hK, hP⟩ := hv
  have C : Cx p s m _ meth c cX10_valueNow 6 RX10 G := ⟨⟨B.exec, B.bytes, hml, findClass_of_methodNamed B.named, fun w hw => atoms_spec (ws := wm yX10_valueNow cX10_valueNow 6 (some .int)) B.pre w (List.mem_cons_of_mem _ hw)⟩, B.notSynchronized, hK⟩
  have hl := lv_entry ([.ref (gR G 142), .ref (gR G a1), .int a2]) (n := 6) (Nat.le_of_ble_eq_true rfl)
  rw [lg_entry_eq]
  generalize (lg_sl ([.ref (gR G 142), .ref (gR G a1), .int a2]) ++ List.replicate (6 - (lg_sl ([.ref (gR G 142), .ref (gR G a1), .int a2])).length) Slot.unset).toArray = ls at hl ⊢
  exact sfX10_valueNow C B.returns k1 ⟨hP, va_S.rf⟩ hl h
def fX10_placeOf (a1 : Int32) (S : St) : Option (Int32 × St) :=
  rd S 151 a1 fun x3 => rm' (S 142 34) x3 fun x4 => rd S 161 ((6 * a1) + x4) fun x5 => ri x5 S
set_option maxHeartbeats 4000000 in
set_option maxRecDepth 20000 in
theorem sfX10_placeOf (C : Cx p s m args meth c cX10_placeOf 2 RX10 G) (hr : meth.sig.returnType = some .int) {a1 : Int32} {S : St} {res : (Int32 × St)} {H : Heap} {locs : List Loc} {ls : Array Slot}  (hd : Dy G S s H locs) (hl : lv_has ls 2 [(0, .ref (gR G 142)), (1, .int a1)]) (h : fX10_placeOf a1 S = some res) : W p l e (rmL 3 0 0) s m args below meth c H locs 0 0 (MQ below (QI G res.1 res.2) args s 0 0 (Ab G)) (F0 m 0 ls []) := by
  unfold fX10_placeOf at h
  have hx := C.1.1
  have hb := C.1.2.1
  refine lv_aload_n hx hb dX10_placeOf_0 rfl (lv_at hl 0 rfl) ?_
  refine gX10_89 C hd (rfl : kd 142 = 10) (q := 161) rfl dX10_placeOf_1 (fun y1 => ?_)
  refine lv_bipush (v := 6) hx hb dX10_placeOf_4 (by decide) ?_
  refine lv_iload_n hx hb dX10_placeOf_6 rfl (lv_at hl 1 rfl) ?_
  refine lv_imul hx hb dX10_placeOf_7 ?_
  refine lv_aload_n hx hb dX10_placeOf_8 rfl (lv_at hl 0 rfl) ?_
  refine gX10_338 C hd (rfl : kd 142 = 10) dX10_placeOf_9 ?_
  refine lv_aload_n hx hb dX10_placeOf_12 rfl (lv_at hl 0 rfl) ?_
  refine gX10_56 C hd (rfl : kd 142 = 10) (q := 151) rfl dX10_placeOf_13 (fun y2 => ?_)
  refine lv_iload_n hx hb dX10_placeOf_16 rfl (lv_at hl 1 rfl) ?_
  refine R_iald C hd y2 h dX10_placeOf_17 (fun x3 h => ?_)
  refine R_rem C h dX10_placeOf_18 (fun x4 h => ?_)
  refine lv_iadd hx hb dX10_placeOf_19 ?_
  refine R_iald C hd y1 h dX10_placeOf_20 (fun x5 h => ?_)
  exact R_iret C hr hd h dX10_placeOf_21
set_option maxRecDepth 20000 in
theorem ccX10_placeOf (l : Launch) (G : Gt) {a1 : Int32} {S : St} {res : (Int32 × St)}  (h : fX10_placeOf a1 S = some res) : Met l yX10_placeOf (wm yX10_placeOf cX10_placeOf 2 (some .int)) (rmL 3 0 0) (PcW G S [.ref (gR G 142), .int a1]) (QI G res.1 res.2) 0 0 (Ab G) := by
  refine Met.ofW (cc := cX10_placeOf) (maxL := 2) (ret := (some .int)) (by decide) rfl ?_
  intro p e s m args below meth c s₁ B hml hv
  obtain ⟨rfl, hK, hP⟩ := hv
  have C : Cx p s m _ meth c cX10_placeOf 2 RX10 G := ⟨⟨B.exec, B.bytes, hml, findClass_of_methodNamed B.named, fun w hw => atoms_spec (ws := wm yX10_placeOf cX10_placeOf 2 (some .int)) B.pre w (List.mem_cons_of_mem _ hw)⟩, B.notSynchronized, hK⟩
  have hl := lv_entry ([.ref (gR G 142), .int a1]) (n := 2) (Nat.le_of_ble_eq_true rfl)
  rw [lg_entry_eq]
  generalize (lg_sl ([.ref (gR G 142), .int a1]) ++ List.replicate (2 - (lg_sl ([.ref (gR G 142), .int a1])).length) Slot.unset).toArray = ls at hl ⊢
  exact sfX10_placeOf C B.returns  ⟨hP, va_S.rf⟩ hl h
def BX10_hearers_60 (r5 : Int32 → Int32 → Int32 → Int32 → St → Option (Int32 × St)) (l1 : Int32) (l2 : Int32) (l4 : Int32) (s0 : Int32) (s1 : Int32) (S : St) : Option (Int32 × St) :=
  vl (s0 ||| s1) fun x1 => vl (l4 + 1) fun x2 => (r5 l1 l2 x1 x2 S)
set_option maxHeartbeats 4000000 in
set_option maxRecDepth 20000 in
theorem sBX10_hearers_60 (C : Cx p s m args meth c cX10_hearers 5 RX10 G) (hr : meth.sig.returnType = some .int) {r5 : Int32 → Int32 → Int32 → Int32 → St → Option (Int32 × St)} (hr5 : ∀ (l1 : Int32) (l2 : Int32) (l3 : Int32) (l4 : Int32) (S : St) (res : (Int32 × St)) (H : Heap) (locs : List Loc) (ls : Array Slot), Dy G S s H locs → lv_has ls 5 [(0, .ref (gR G 142)), (1, .int l1), (2, .int l2), (3, .int l3), (4, .int l4)] → r5 l1 l2 l3 l4 S = some res → W p l e (rmL 4 0 0) s m args below meth c H locs 0 0 (MQ below (QI G res.1 res.2) args s 0 0 (Ab G)) (F0 m 5 ls [])) {l1 : Int32} {l2 : Int32} {l4 : Int32} {s0 : Int32} {s1 : Int32} {S : St} {res : (Int32 × St)} {H : Heap} {locs : List Loc} {ls : Array Slot}  (hd : Dy G S s H locs) (hl : lv_has ls 5 [(0, .ref (gR G 142)), (1, .int l1), (2, .int l2), (4, .int l4)]) (h : BX10_hearers_60 r5 l1 l2 l4 s0 s1 S = some res) : W p l e (rmL 4 0 0) s m args below meth c H locs 0 0 (MQ below (QI G res.1 res.2) args s 0 0 (Ab G)) (F0 m 60 ls [.int s1, .int s0]) := by
  unfold BX10_hearers_60 at h
  have hx := C.1.1
  have hb := C.1.2.1
  refine lv_ior hx hb dX10_hearers_60 ?_
  refine R_vl h (fun x1 h => ?_)
  refine lv_istore_n (lv' := [(3, .int x1), (0, .ref (gR G 142)), (1, .int l1), (2, .int l2), (4, .int l4)]) hx hb dX10_hearers_61 rfl hl (by decide) rfl (fun ls hl => ?_)
  refine R_vi h (fun x2 ex2 h => ?_)
  refine lv_iinc (v := x2) (lv' := [(4, .int x2), (3, .int x1), (0, .ref (gR G 142)), (1, .int l1), (2, .int l2)]) hx hb dX10_hearers_62 hl (k := 4) rfl (by rw [ex2]; rfl) (by decide) rfl (fun ls hl => ?_)
  refine lv_goto (tgt := 5) hx hb dX10_hearers_65 (by decide) ?_
  exact hr5 l1 l2 x1 x2 _ _ _ _ _  hd (lv_sub hl [2, 3, 4, 1, 0] rfl) h
def BX10_hearers_59 (r5 : Int32 → Int32 → Int32 → Int32 → St → Option (Int32 × St)) (l1 : Int32) (l2 : Int32) (l4 : Int32) (s0 : Int32) (S : St) : Option (Int32 × St) :=
  (BX10_hearers_60 r5 l1 l2 l4 s0 0 S)
set_option maxHeartbeats 4000000 in
set_option maxRecDepth 20000 in
theorem sBX10_hearers_59 (C : Cx p s m args meth c cX10_hearers 5 RX10 G) (hr : meth.sig.returnType = some .int) {r5 : Int32 → Int32 → Int32 → Int32 → St → Option (Int32 × St)} (hr5 : ∀ (l1 : Int32) (l2 : Int32) (l3 : Int32) (l4 : Int32) (S : St) (res : (Int32 × St)) (H : Heap) (locs : List Loc) (ls : Array Slot), Dy G S s H locs → lv_has ls 5 [(0, .ref (gR G 142)), (1, .int l1), (2, .int l2), (3, .int l3), (4, .int l4)] → r5 l1 l2 l3 l4 S = some res → W p l e (rmL 4 0 0) s m args below meth c H locs 0 0 (MQ below (QI G res.1 res.2) args s 0 0 (Ab G)) (F0 m 5 ls [])) {l1 : Int32} {l2 : Int32} {l4 : Int32} {s0 : Int32} {S : St} {res : (Int32 × St)} {H : Heap} {locs : List Loc} {ls : Array Slot}  (hd : Dy G S s H locs) (hl : lv_has ls 5 [(0, .ref (gR G 142)), (1, .int l1), (2, .int l2), (4, .int l4)]) (h : BX10_hearers_59 r5 l1 l2 l4 s0 S = some res) : W p l e (rmL 4 0 0) s m args below meth c H locs 0 0 (MQ below (QI G res.1 res.2) args s 0 0 (Ab G)) (F0 m 59 ls [.int s0]) := by
  unfold BX10_hearers_59 at h
  have hx := C.1.1
  have hb := C.1.2.1
  refine lv_iconst (v := 0) hx hb dX10_hearers_59 (by decide) ?_
  exact sBX10_hearers_60 C hr hr5  hd (lv_sub hl [0, 1, 2, 3] rfl) h
def BX10_hearers_52 (r5 : Int32 → Int32 → Int32 → Int32 → St → Option (Int32 × St)) (l1 : Int32) (l2 : Int32) (l4 : Int32) (s0 : Int32) (S : St) : Option (Int32 × St) :=
  (BX10_hearers_60 r5 l1 l2 l4 s0 ((1 : Int32) <<< (l4 &&& 31)) S)
set_option maxHeartbeats 4000000 in
set_option maxRecDepth 20000 in
theorem sBX10_hearers_52 (C : Cx p s m args meth c cX10_hearers 5 RX10 G) (hr : meth.sig.returnType = some .int) {r5 : Int32 → Int32 → Int32 → Int32 → St → Option (Int32 × St)} (hr5 : ∀ (l1 : Int32) (l2 : Int32) (l3 : Int32) (l4 : Int32) (S : St) (res : (Int32 × St)) (H : Heap) (locs : List Loc) (ls : Array Slot), Dy G S s H locs → lv_has ls 5 [(0, .ref (gR G 142)), (1, .int l1), (2, .int l2), (3, .int l3), (4, .int l4)] → r5 l1 l2 l3 l4 S = some res → W p l e (rmL 4 0 0) s m args below meth c H locs 0 0 (MQ below (QI G res.1 res.2) args s 0 0 (Ab G)) (F0 m 5 ls [])) {l1 : Int32} {l2 : Int32} {l4 : Int32} {s0 : Int32} {S : St} {res : (Int32 × St)} {H : Heap} {locs : List Loc} {ls : Array Slot}  (hd : Dy G S s H locs) (hl : lv_has ls 5 [(0, .ref (gR G 142)), (1, .int l1), (2, .int l2), (4, .int l4)]) (h : BX10_hearers_52 r5 l1 l2 l4 s0 S = some res) : W p l e (rmL 4 0 0) s m args below meth c H locs 0 0 (MQ below (QI G res.1 res.2) args s 0 0 (Ab G)) (F0 m 52 ls [.int s0]) := by
  unfold BX10_hearers_52 at h
  have hx := C.1.1
  have hb := C.1.2.1
  refine lv_iconst (v := 1) hx hb dX10_hearers_52 (by decide) ?_
  refine lv_iload hx hb dX10_hearers_53 (lv_at hl 3 rfl) ?_
  refine lv_ishl hx hb dX10_hearers_55 ?_
  refine lv_goto (tgt := 60) hx hb dX10_hearers_56 (by decide) ?_
  exact sBX10_hearers_60 C hr hr5  hd (lv_sub hl [0, 1, 2, 3] rfl) h
def KX10_hearers_5 (r5 : Int32 → Int32 → Int32 → Int32 → St → Option (Int32 × St)) (l1 : Int32) (l2 : Int32) (l3 : Int32) (l4 : Int32) (S : St) : Option (Int32 × St) :=
  rd S 145 2 fun x2 => (if x2 ≤ l4 then ri l3 S else (if l4 = l2 then (BX10_hearers_59 r5 l1 l2 l4 l3 S) else bd (fX10_placeOf l4 S) fun x5 S => (if x5 = l1 then (BX10_hearers_52 r5 l1 l2 l4 l3 S) else bd (fX10_placeOf l4 S) fun x8 S => rd S 149 ((8 * l1) + x8) fun x9 => (if x9 ≤ 0 then (BX10_hearers_59 r5 l1 l2 l4 l3 S) else (BX10_hearers_52 r5 l1 l2 l4 l3 S)))))
set_option maxHeartbeats 4000000 in
set_option maxRecDepth 20000 in
theorem sKX10_hearers_5 (C : Cx p s m args meth c cX10_hearers 5 RX10 G) (hr : meth.sig.returnType = some .int) {r5 : Int32 → Int32 → Int32 → Int32 → St → Option (Int32 × St)} (hr5 : ∀ (l1 : Int32) (l2 : Int32) (l3 : Int32) (l4 : Int32) (S : St) (res : (Int32 × St)) (H : Heap) (locs : List Loc) (ls : Array Slot), Dy G S s H locs → lv_has ls 5 [(0, .ref (gR G 142)), (1, .int l1), (2, .int l2), (3, .int l3), (4, .int l4)] → r5 l1 l2 l3 l4 S = some res → W p l e (rmL 4 0 0) s m args below meth c H locs 0 0 (MQ below (QI G res.1 res.2) args s 0 0 (Ab G)) (F0 m 5 ls [])) {l1 : Int32} {l2 : Int32} {l3 : Int32} {l4 : Int32} {S : St} {res : (Int32 × St)} {H : Heap} {locs : List Loc} {ls : Array Slot}  (hd : Dy G S s H locs) (hl : lv_has ls 5 [(0, .ref (gR G 142)), (1, .int l1), (2, .int l2), (3, .int l3), (4, .int l4)]) (h : KX10_hearers_5 r5 l1 l2 l3 l4 S = some res) : W p l e (rmL 4 0 0) s m args below meth c H locs 0 0 (MQ below (QI G res.1 res.2) args s 0 0 (Ab G)) (F0 m 5 ls []) := by
  unfold KX10_hearers_5 at h
  have hx := C.1.1
  have hb := C.1.2.1
  refine lv_iload hx hb dX10_hearers_5 (lv_at hl 4 rfl) ?_
  refine lv_aload_n hx hb dX10_hearers_7 rfl (lv_at hl 0 rfl) ?_
  refine gX10_39 C hd (rfl : kd 142 = 10) (q := 145) rfl dX10_hearers_8 (fun y1 => ?_)
  refine lv_iconst (v := 2) hx hb dX10_hearers_11 (by decide) ?_
  refine R_iald C hd y1 h dX10_hearers_12 (fun x2 h => ?_)
  refine lv_icmp_ge (tgt := 68) hx hb dX10_hearers_13 (by decide) (fun c3 => ?_) (fun c3 => ?_)
  · rw [if_pos c3] at h
    refine lv_iload_n hx hb dX10_hearers_68 rfl (lv_at hl 3 rfl) ?_
    exact R_iret C hr hd h dX10_hearers_69
  · rw [if_neg c3] at h
    refine lv_iload_n hx hb dX10_hearers_16 rfl (lv_at hl 3 rfl) ?_
    refine lv_iload hx hb dX10_hearers_17 (lv_at hl 4 rfl) ?_
    refine lv_iload_n hx hb dX10_hearers_19 rfl (lv_at hl 2 rfl) ?_
    refine lv_icmp_eq (tgt := 59) hx hb dX10_hearers_20 (by decide) (fun c4 => ?_) (fun c4 => ?_)
    · rw [if_pos c4] at h
      exact sBX10_hearers_59 C hr hr5  hd (lv_sub hl [0, 1, 2, 4] rfl) h
    · rw [if_neg c4] at h
      refine lv_aload_n hx hb dX10_hearers_23 rfl (lv_at hl 0 rfl) ?_
      refine lv_iload hx hb dX10_hearers_24 (lv_at hl 4 rfl) ?_
      obtain ⟨x5, S1, hc, h⟩ := bd_some h
      refine R_cVi C hd (ccX10_placeOf l G  hc) kX10_359 rfl (by decide) (rfl : kd 142 = 10) hl.1 ⟨by decide, by decide⟩ rfl rfl (Nat.le_of_ble_eq_true rfl) dX10_hearers_26 ⟨Nat.zero_le _, Nat.zero_le _⟩ (fun H locs hd => ?_)
      generalize S1 = S at h hd
      refine lv_iload_n hx hb dX10_hearers_29 rfl (lv_at hl 1 rfl) ?_
      refine lv_icmp_eq (tgt := 52) hx hb dX10_hearers_30 (by decide) (fun c6 => ?_) (fun c6 => ?_)
      · rw [if_pos c6] at h
        exact sBX10_hearers_52 C hr hr5  hd (lv_sub hl [0, 1, 2, 4] rfl) h
      · rw [if_neg c6] at h
        refine lv_aload_n hx hb dX10_hearers_33 rfl (lv_at hl 0 rfl) ?_
        refine gX10_50 C hd (rfl : kd 142 = 10) (q := 149) rfl dX10_hearers_34 (fun y7 => ?_)
        refine lv_bipush (v := 8) hx hb dX10_hearers_37 (by decide) ?_
        refine lv_iload_n hx hb dX10_hearers_39 rfl (lv_at hl 1 rfl) ?_
        refine lv_imul hx hb dX10_hearers_40 ?_
        refine lv_aload_n hx hb dX10_hearers_41 rfl (lv_at hl 0 rfl) ?_
        refine lv_iload hx hb dX10_hearers_42 (lv_at hl 4 rfl) ?_
        obtain ⟨x8, S1, hc, h⟩ := bd_some h
        refine R_cVi C hd (ccX10_placeOf l G  hc) kX10_359 rfl (by decide) (rfl : kd 142 = 10) hl.1 ⟨by decide, by decide⟩ rfl rfl (Nat.le_of_ble_eq_true rfl) dX10_hearers_44 ⟨Nat.zero_le _, Nat.zero_le _⟩ (fun H locs hd => ?_)
        generalize S1 = S at h hd
        refine lv_iadd hx hb dX10_hearers_47 ?_
        refine R_iald C hd y7 h dX10_hearers_48 (fun x9 h => ?_)
        refine lv_if_le (tgt := 59) hx hb dX10_hearers_49 (by decide) (fun c10 => ?_) (fun c10 => ?_)
        · rw [if_pos c10] at h
          exact sBX10_hearers_59 C hr hr5  hd (lv_sub hl [0, 1, 2, 4] rfl) h
        · rw [if_neg c10] at h
          exact sBX10_hearers_52 C hr hr5  hd (lv_sub hl [0, 1, 2, 4] rfl) h
def LX10_hearers_5 : Nat → Int32 → Int32 → Int32 → Int32 → St → Option (Int32 × St)
  | 0 => fun _ _ _ _ _ => none
  | n + 1 => fun l1 l2 l3 l4 S => KX10_hearers_5 (LX10_hearers_5 n) l1 l2 l3 l4 S
theorem sLX10_hearers_5 (C : Cx p s m args meth c cX10_hearers 5 RX10 G) (hr : meth.sig.returnType = some .int) : ∀ (n : Nat) (l1 : Int32) (l2 : Int32) (l3 : Int32) (l4 : Int32) (S : St) (res : (Int32 × St)) (H : Heap) (locs : List Loc) (ls : Array Slot), Dy G S s H locs → lv_has ls 5 [(0, .ref (gR G 142)), (1, .int l1), (2, .int l2), (3, .int l3), (4, .int l4)] → LX10_hearers_5 n l1 l2 l3 l4 S = some res → W p l e (rmL 4 0 0) s m args below meth c H locs 0 0 (MQ below (QI G res.1 res.2) args s 0 0 (Ab G)) (F0 m 5 ls []) := by
  intro n
  induction n with
  | zero => intro l1 l2 l3 l4 S res H locs ls  hd hl h; cases h
  | succ n ih =>
    intro l1 l2 l3 l4 S res H locs ls  hd hl h
    exact sKX10_hearers_5 C hr ih  hd hl h
def fX10_hearers (a1 : Int32) (a2 : Int32) (S : St) : Option (Int32 × St) :=
  (LX10_hearers_5 FU a1 a2 0 0 S)
set_option maxHeartbeats 4000000 in
set_option maxRecDepth 20000 in
theorem sfX10_hearers (C : Cx p s m args meth c cX10_hearers 5 RX10 G) (hr : meth.sig.returnType = some .int) {a1 : Int32} {a2 : Int32} {S : St} {res : (Int32 × St)} {H : Heap} {locs : List Loc} {ls : Array Slot}  (hd : Dy G S s H locs) (hl : lv_has ls 5 [(0, .ref (gR G 142)), (1, .int a1), (2, .int a2)]) (h : fX10_hearers a1 a2 S = some res) : W p l e (rmL 4 0 0) s m args below meth c H locs 0 0 (MQ below (QI G res.1 res.2) args s 0 0 (Ab G)) (F0 m 0 ls []) := by
  unfold fX10_hearers at h
  have hx := C.1.1
  have hb := C.1.2.1
  refine lv_iconst (v := 0) hx hb dX10_hearers_0 (by decide) ?_
  refine lv_istore_n (lv' := [(3, .int 0), (0, .ref (gR G 142)), (1, .int a1), (2, .int a2)]) hx hb dX10_hearers_1 rfl hl (by decide) rfl (fun ls hl => ?_)
  refine lv_iconst (v := 0) hx hb dX10_hearers_2 (by decide) ?_
  refine lv_istore (lv' := [(4, .int 0), (3, .int 0), (0, .ref (gR G 142)), (1, .int a1), (2, .int a2)]) hx hb dX10_hearers_3 hl (by decide) rfl (fun ls hl => ?_)
  exact sLX10_hearers_5 C hr _ a1 a2 0 0 _ _ _ _ _  hd (lv_sub hl [2, 3, 4, 1, 0] rfl) h
set_option maxRecDepth 20000 in
theorem ccX10_hearers (l : Launch) (G : Gt) {a1 : Int32} {a2 : Int32} {S : St} {res : (Int32 × St)}  (h : fX10_hearers a1 a2 S = some res) : Met l yX10_hearers (wm yX10_hearers cX10_hearers 5 (some .int)) (rmL 4 0 0) (PcW G S [.ref (gR G 142), .int a1, .int a2]) (QI G res.1 res.2) 0 0 (Ab G) := by
  refine Met.ofW (cc := cX10_hearers) (maxL := 5) (ret := (some .int)) (by decide) rfl ?_
  intro p e s m args below meth c s₁ B hml hv
  obtain ⟨rfl, hK, hP⟩ := hv
  have C : Cx p s m _ meth c cX10_hearers 5 RX10 G := ⟨⟨B.exec, B.bytes, hml, findClass_of_methodNamed B.named, fun w hw => atoms_spec (ws := wm yX10_hearers cX10_hearers 5 (some .int)) B.pre w (List.mem_cons_of_mem _ hw)⟩, B.notSynchronized, hK⟩
  have hl := lv_entry ([.ref (gR G 142), .int a1, .int a2]) (n := 5) (Nat.le_of_ble_eq_true rfl)
  rw [lg_entry_eq]
  generalize (lg_sl ([.ref (gR G 142), .int a1, .int a2]) ++ List.replicate (5 - (lg_sl ([.ref (gR G 142), .int a1, .int a2])).length) Slot.unset).toArray = ls at hl ⊢
  exact sfX10_hearers C B.returns  ⟨hP, va_S.rf⟩ hl h
def BX10_tuneOf_105 (l1 : Int32) (l2 : Int32) (S : St) : Option (Int32 × St) :=
  rd S 158 l1 fun x2 => bd (fX10_isOf x2 l2 S) fun x3 S => (if x3 = 0 then ri ((-1)) S else ri l2 S)
set_option maxHeartbeats 4000000 in
set_option maxRecDepth 20000 in
theorem sBX10_tuneOf_105 (C : Cx p s m args meth c cX10_tuneOf 3 RX10 G) (hr : meth.sig.returnType = some .int) {l1 : Int32} {l2 : Int32} {S : St} {res : (Int32 × St)} {H : Heap} {locs : List Loc} {ls : Array Slot}  (hd : Dy G S s H locs) (hl : lv_has ls 3 [(0, .ref (gR G 142)), (1, .int l1), (2, .int l2)]) (h : BX10_tuneOf_105 l1 l2 S = some res) : W p l e (rmL 5 0 0) s m args below meth c H locs 0 0 (MQ below (QI G res.1 res.2) args s 0 0 (Ab G)) (F0 m 105 ls []) := by
  unfold BX10_tuneOf_105 at h
  have hx := C.1.1
  have hb := C.1.2.1
  refine lv_aload_n hx hb dX10_tuneOf_105 rfl (lv_at hl 0 rfl) ?_
  refine gX10_81 C hd (rfl : kd 142 = 10) (q := 158) rfl dX10_tuneOf_106 (fun y1 => ?_)
  refine lv_iload_n hx hb dX10_tuneOf_109 rfl (lv_at hl 1 rfl) ?_
  refine R_iald C hd y1 h dX10_tuneOf_110 (fun x2 h => ?_)
  refine lv_iload_n hx hb dX10_tuneOf_111 rfl (lv_at hl 2 rfl) ?_
  obtain ⟨x3, S1, hc, h⟩ := bd_some h
  refine R_cSi C hd (ccX10_isOf l G  hc) kX10_298  hl.1 ⟨by decide, by decide⟩ rfl rfl (Nat.le_of_ble_eq_true rfl) dX10_tuneOf_112 ⟨Nat.zero_le _, Nat.zero_le _⟩ (fun H locs hd => ?_)
  generalize S1 = S at h hd
  refine lv_if_eq (tgt := 122) hx hb dX10_tuneOf_115 (by decide) (fun c4 => ?_) (fun c4 => ?_)
  · rw [if_pos c4] at h
    refine lv_iconst (v := -1) hx hb dX10_tuneOf_122 (by decide) ?_
    exact R_iret C hr hd h dX10_tuneOf_123
  · rw [if_neg c4] at h
    refine lv_iload_n hx hb dX10_tuneOf_118 rfl (lv_at hl 2 rfl) ?_
    refine lv_goto (tgt := 123) hx hb dX10_tuneOf_119 (by decide) ?_
    exact R_iret C hr hd h dX10_tuneOf_123
def BX10_tuneOf_104 (l1 : Int32) (s0 : Int32) (S : St) : Option (Int32 × St) :=
  (BX10_tuneOf_105 l1 s0 S)
set_option maxHeartbeats 4000000 in
set_option maxRecDepth 20000 in
theorem sBX10_tuneOf_104 (C : Cx p s m args meth c cX10_tuneOf 3 RX10 G) (hr : meth.sig.returnType = some .int) {l1 : Int32} {s0 : Int32} {S : St} {res : (Int32 × St)} {H : Heap} {locs : List Loc} {ls : Array Slot}  (hd : Dy G S s H locs) (hl : lv_has ls 3 [(0, .ref (gR G 142)), (1, .int l1)]) (h : BX10_tuneOf_104 l1 s0 S = some res) : W p l e (rmL 5 0 0) s m args below meth c H locs 0 0 (MQ below (QI G res.1 res.2) args s 0 0 (Ab G)) (F0 m 104 ls [.int s0]) := by
  unfold BX10_tuneOf_104 at h
  have hx := C.1.1
  have hb := C.1.2.1
  refine lv_istore_n (lv' := [(2, .int s0), (0, .ref (gR G 142)), (1, .int l1)]) hx hb dX10_tuneOf_104 rfl hl (by decide) rfl (fun ls hl => ?_)
  exact sBX10_tuneOf_105 C hr  hd (lv_sub hl [1, 2, 0] rfl) h
def fX10_tuneOf (a1 : Int32) (S : St) : Option (Int32 × St) :=
  bd (fX10_placeOf a1 S) fun x1 S => rd S 145 3 fun x3 => (if x3 ≤ 0 then (BX10_tuneOf_105 a1 x1 S) else wr S 165 0 (S 142 34) fun S => wr S 165 1 a1 fun S => wr S 165 2 x1 fun S => rd S 158 a1 fun x10 => bd (fX10_bitsOf x10 S) fun x11 S => wr S 165 3 x11 fun S => rd S 159 a1 fun x14 => wr S 165 4 x14 fun S => rd S 145 3 fun x17 => bd (fX10_valueNow 154 x17 S) fun x18 S => rd S 145 0 fun x20 => rm' x18 x20 fun x21 => (if 0 ≤ x21 then (BX10_tuneOf_104 a1 x21 S) else rd S 145 0 fun x24 => (BX10_tuneOf_104 a1 (x21 + x24) S)))
set_option maxHeartbeats 4000000 in
set_option maxRecDepth 20000 in
theorem sfX10_tuneOf (C : Cx p s m args meth c cX10_tuneOf 3 RX10 G) (hr : meth.sig.returnType = some .int) {a1 : Int32} {S : St} {res : (Int32 × St)} {H : Heap} {locs : List Loc} {ls : Array Slot}  (hd : Dy G S s H locs) (hl : lv_has ls 3 [(0, .ref (gR G 142)), (1, .int a1)]) (h : fX10_tuneOf a1 S = some res) : W p l e (rmL 5 0 0) s m args below meth c H locs 0 0 (MQ below (QI G res.1 res.2) args s 0 0 (Ab G)) (F0 m 0 ls []) := by
  unfold fX10_tuneOf at h
  have hx := C.1.1
  have hb := C.1.2.1
  refine lv_aload_n hx hb dX10_tuneOf_0 rfl (lv_at hl 0 rfl) ?_
  refine lv_iload_n hx hb dX10_tuneOf_1 rfl (lv_at hl 1 rfl) ?_
  obtain ⟨x1, S1, hc, h⟩ := bd_some h
  refine R_cVi C hd (ccX10_placeOf l G  hc) kX10_359 rfl (by decide) (rfl : kd 142 = 10) hl.1 ⟨by decide, by decide⟩ rfl rfl (Nat.le_of_ble_eq_true rfl) dX10_tuneOf_2 ⟨Nat.zero_le _, Nat.zero_le _⟩ (fun H locs hd => ?_)
  generalize S1 = S at h hd
  refine lv_istore_n (lv' := [(2, .int x1), (0, .ref (gR G 142)), (1, .int a1)]) hx hb dX10_tuneOf_5 rfl hl (by decide) rfl (fun ls hl => ?_)
  refine lv_aload_n hx hb dX10_tuneOf_6 rfl (lv_at hl 1 rfl) ?_
  refine gX10_39 C hd (rfl : kd 142 = 10) (q := 145) rfl dX10_tuneOf_7 (fun y2 => ?_)
  refine lv_iconst (v := 3) hx hb dX10_tuneOf_10 (by decide) ?_
  refine R_iald C hd y2 h dX10_tuneOf_11 (fun x3 h => ?_)
  refine lv_if_le (tgt := 105) hx hb dX10_tuneOf_12 (by decide) (fun c4 => ?_) (fun c4 => ?_)
  · rw [if_pos c4] at h
    exact sBX10_tuneOf_105 C hr  hd (lv_sub hl [1, 2, 0] rfl) h
  · rw [if_neg c4] at h
    refine lv_aload_n hx hb dX10_tuneOf_15 rfl (lv_at hl 1 rfl) ?_
    refine gX10_101 C hd (rfl : kd 142 = 10) (q := 165) rfl dX10_tuneOf_16 (fun y5 => ?_)
    refine lv_iconst (v := 0) hx hb dX10_tuneOf_19 (by decide) ?_
    refine lv_aload_n hx hb dX10_tuneOf_20 rfl (lv_at hl 1 rfl) ?_
    refine gX10_338 C hd (rfl : kd 142 = 10) dX10_tuneOf_21 ?_
    refine R_iast C hd y5 h dX10_tuneOf_24 (fun S H locs hd h => ?_)
    refine lv_aload_n hx hb dX10_tuneOf_25 rfl (lv_at hl 1 rfl) ?_
    refine gX10_101 C hd (rfl : kd 142 = 10) (q := 165) rfl dX10_tuneOf_26 (fun y6 => ?_)
    refine lv_iconst (v := 1) hx hb dX10_tuneOf_29 (by decide) ?_
    refine lv_iload_n hx hb dX10_tuneOf_30 rfl (lv_at hl 2 rfl) ?_
    refine R_iast C hd y6 h dX10_tuneOf_31 (fun S H locs hd h => ?_)
    refine lv_aload_n hx hb dX10_tuneOf_32 rfl (lv_at hl 1 rfl) ?_
    refine gX10_101 C hd (rfl : kd 142 = 10) (q := 165) rfl dX10_tuneOf_33 (fun y7 => ?_)
    refine lv_iconst (v := 2) hx hb dX10_tuneOf_36 (by decide) ?_
    refine lv_iload_n hx hb dX10_tuneOf_37 rfl (lv_at hl 0 rfl) ?_
    refine R_iast C hd y7 h dX10_tuneOf_38 (fun S H locs hd h => ?_)
    refine lv_aload_n hx hb dX10_tuneOf_39 rfl (lv_at hl 1 rfl) ?_
    refine gX10_101 C hd (rfl : kd 142 = 10) (q := 165) rfl dX10_tuneOf_40 (fun y8 => ?_)
    refine lv_iconst (v := 3) hx hb dX10_tuneOf_43 (by decide) ?_
    refine lv_aload_n hx hb dX10_tuneOf_44 rfl (lv_at hl 1 rfl) ?_
    refine gX10_81 C hd (rfl : kd 142 = 10) (q := 158) rfl dX10_tuneOf_45 (fun y9 => ?_)
    refine lv_iload_n hx hb dX10_tuneOf_48 rfl (lv_at hl 2 rfl) ?_
    refine R_iald C hd y9 h dX10_tuneOf_49 (fun x10 h => ?_)
    obtain ⟨x11, S1, hc, h⟩ := bd_some h
    refine R_cSi C hd (ccX10_bitsOf l G  hc) kX10_362  hl.1 ⟨by decide, by decide⟩ rfl rfl (Nat.le_of_ble_eq_true rfl) dX10_tuneOf_50 ⟨Nat.zero_le _, Nat.zero_le _⟩ (fun H locs hd => ?_)
    generalize S1 = S at h hd
    refine R_iast C hd y8 h dX10_tuneOf_53 (fun S H locs hd h => ?_)
    refine lv_aload_n hx hb dX10_tuneOf_54 rfl (lv_at hl 1 rfl) ?_
    refine gX10_101 C hd (rfl : kd 142 = 10) (q := 165) rfl dX10_tuneOf_55 (fun y12 => ?_)
    refine lv_iconst (v := 4) hx hb dX10_tuneOf_58 (by decide) ?_
    refine lv_aload_n hx hb dX10_tuneOf_59 rfl (lv_at hl 1 rfl) ?_
    refine gX10_83 C hd (rfl : kd 142 = 10) (q := 159) rfl dX10_tuneOf_60 (fun y13 => ?_)
    refine lv_iload_n hx hb dX10_tuneOf_63 rfl (lv_at hl 2 rfl) ?_
    refine R_iald C hd y13 h dX10_tuneOf_64 (fun x14 h => ?_)
    refine R_iast C hd y12 h dX10_tuneOf_65 (fun S H locs hd h => ?_)
    refine lv_aload_n hx hb dX10_tuneOf_66 rfl (lv_at hl 1 rfl) ?_
    refine lv_aload_n hx hb dX10_tuneOf_67 rfl (lv_at hl 1 rfl) ?_
    refine gX10_65 C hd (rfl : kd 142 = 10) (q := 154) rfl dX10_tuneOf_68 (fun y15 => ?_)
    refine lv_aload_n hx hb dX10_tuneOf_71 rfl (lv_at hl 1 rfl) ?_
    refine gX10_39 C hd (rfl : kd 142 = 10) (q := 145) rfl dX10_tuneOf_72 (fun y16 => ?_)
    refine lv_iconst (v := 3) hx hb dX10_tuneOf_75 (by decide) ?_
    refine R_iald C hd y16 h dX10_tuneOf_76 (fun x17 h => ?_)
    obtain ⟨x18, S1, hc, h⟩ := bd_some h
    refine R_cVi C hd (ccX10_valueNow l G y15 hc) kX10_365 rfl (by decide) (rfl : kd 142 = 10) hl.1 ⟨by decide, by decide⟩ rfl rfl (Nat.le_of_ble_eq_true rfl) dX10_tuneOf_77 ⟨Nat.zero_le _, Nat.zero_le _⟩ (fun H locs hd => ?_)
    generalize S1 = S at h hd
    refine lv_aload_n hx hb dX10_tuneOf_80 rfl (lv_at hl 1 rfl) ?_
    refine gX10_39 C hd (rfl : kd 142 = 10) (q := 145) rfl dX10_tuneOf_81 (fun y19 => ?_)
    refine lv_iconst (v := 0) hx hb dX10_tuneOf_84 (by decide) ?_
    refine R_iald C hd y19 h dX10_tuneOf_85 (fun x20 h => ?_)
    refine R_rem C h dX10_tuneOf_86 (fun x21 h => ?_)
    refine lv_istore_n (lv' := [(2, .int x21), (0, .ref (gR G 142)), (1, .int a1)]) hx hb dX10_tuneOf_87 rfl hl (by decide) rfl (fun ls hl => ?_)
    refine lv_iload_n hx hb dX10_tuneOf_88 rfl (lv_at hl 0 rfl) ?_
    refine lv_if_ge (tgt := 103) hx hb dX10_tuneOf_89 (by decide) (fun c22 => ?_) (fun c22 => ?_)
    · rw [if_pos c22] at h
      refine lv_iload_n hx hb dX10_tuneOf_103 rfl (lv_at hl 0 rfl) ?_
      exact sBX10_tuneOf_104 C hr  hd (lv_sub hl [1, 2] rfl) h
    · rw [if_neg c22] at h
      refine lv_iload_n hx hb dX10_tuneOf_92 rfl (lv_at hl 0 rfl) ?_
      refine lv_aload_n hx hb dX10_tuneOf_93 rfl (lv_at hl 1 rfl) ?_
      refine gX10_39 C hd (rfl : kd 142 = 10) (q := 145) rfl dX10_tuneOf_94 (fun y23 => ?_)
      refine lv_iconst (v := 0) hx hb dX10_tuneOf_97 (by decide) ?_
      refine R_iald C hd y23 h dX10_tuneOf_98 (fun x24 h => ?_)
      refine lv_iadd hx hb dX10_tuneOf_99 ?_
      refine lv_goto (tgt := 104) hx hb dX10_tuneOf_100 (by decide) ?_
      exact sBX10_tuneOf_104 C hr  hd (lv_sub hl [1, 2] rfl) h
set_option maxRecDepth 20000 in
theorem ccX10_tuneOf (l : Launch) (G : Gt) {a1 : Int32} {S : St} {res : (Int32 × St)}  (h : fX10_tuneOf a1 S = some res) : Met l yX10_tuneOf (wm yX10_tuneOf cX10_tuneOf 3 (some .int)) (rmL 5 0 0) (PcW G S [.ref (gR G 142), .int a1]) (QI G res.1 res.2) 0 0 (Ab G) := by
  refine Met.ofW (cc := cX10_tuneOf) (maxL := 3) (ret := (some .int)) (by decide) rfl ?_
  intro p e s m args below meth c s₁ B hml hv
  obtain ⟨rfl, hK, hP⟩ := hv
  have C : Cx p s m _ meth c cX10_tuneOf 3 RX10 G := ⟨⟨B.exec, B.bytes, hml, findClass_of_methodNamed B.named, fun w hw => atoms_spec (ws := wm yX10_tuneOf cX10_tuneOf 3 (some .int)) B.pre w (List.mem_cons_of_mem _ hw)⟩, B.notSynchronized, hK⟩
  have hl := lv_entry ([.ref (gR G 142), .int a1]) (n := 3) (Nat.le_of_ble_eq_true rfl)
  rw [lg_entry_eq]
  generalize (lg_sl ([.ref (gR G 142), .int a1]) ++ List.replicate (3 - (lg_sl ([.ref (gR G 142), .int a1])).length) Slot.unset).toArray = ls at hl ⊢
  exact sfX10_tuneOf C B.returns  ⟨hP, va_S.rf⟩ hl h
def fX10_isTrespass (a1 : Int32) (a2 : Int32) (S : St) : Option (Int32 × St) :=
  bd (fX10_placeOf a1 S) fun x1 S => (if a2 = x1 then rz 0 S else rd S 160 ((8 * a1) + a2) fun x4 => (if x4 = 0 then rd S 162 a2 fun x7 => (if x7 = (-1) then rz 0 S else rd S 162 a2 fun x10 => (if x10 = a1 then rz 0 S else rz 1 S)) else rz 0 S))
set_option maxHeartbeats 4000000 in
set_option maxRecDepth 20000 in
theorem sfX10_isTrespass (C : Cx p s m args meth c cX10_isTrespass 3 RX10 G) (hr : meth.sig.returnType = some .boolean) {a1 : Int32} {a2 : Int32} {S : St} {res : (Int32 × St)} {H : Heap} {locs : List Loc} {ls : Array Slot}  (hd : Dy G S s H locs) (hl : lv_has ls 3 [(0, .ref (gR G 142)), (1, .int a1), (2, .int a2)]) (h : fX10_isTrespass a1 a2 S = some res) : W p l e (rmL 4 0 0) s m args below meth c H locs 0 0 (MQ below (QI G res.1 res.2) args s 0 0 (Ab G)) (F0 m 0 ls []) := by
  unfold fX10_isTrespass at h
  have hx := C.1.1
  have hb := C.1.2.1
  refine lv_iload_n hx hb dX10_isTrespass_0 rfl (lv_at hl 2 rfl) ?_
  refine lv_aload_n hx hb dX10_isTrespass_1 rfl (lv_at hl 0 rfl) ?_
  refine lv_iload_n hx hb dX10_isTrespass_2 rfl (lv_at hl 1 rfl) ?_
  obtain ⟨x1, S1, hc, h⟩ := bd_some h
  refine R_cVi C hd (ccX10_placeOf l G  hc) kX10_359 rfl (by decide) (rfl : kd 142 = 10) hl.1 ⟨by decide, by decide⟩ rfl rfl (Nat.le_of_ble_eq_true rfl) dX10_isTrespass_3 ⟨Nat.zero_le _, Nat.zero_le _⟩ (fun H locs hd => ?_)
  generalize S1 = S at h hd
  refine lv_icmp_eq (tgt := 47) hx hb dX10_isTrespass_6 (by decide) (fun c2 => ?_) (fun c2 => ?_)
  · rw [if_pos c2] at h
    refine lv_iconst (v := 0) hx hb dX10_isTrespass_47 (by decide) ?_
    exact R_zret C hr hd h dX10_isTrespass_48
  · rw [if_neg c2] at h
    refine lv_aload_n hx hb dX10_isTrespass_9 rfl (lv_at hl 0 rfl) ?_
    refine gX10_86 C hd (rfl : kd 142 = 10) (q := 160) rfl dX10_isTrespass_10 (fun y3 => ?_)
    refine lv_bipush (v := 8) hx hb dX10_isTrespass_13 (by decide) ?_
    refine lv_iload_n hx hb dX10_isTrespass_15 rfl (lv_at hl 1 rfl) ?_
    refine lv_imul hx hb dX10_isTrespass_16 ?_
    refine lv_iload_n hx hb dX10_isTrespass_17 rfl (lv_at hl 2 rfl) ?_
    refine lv_iadd hx hb dX10_isTrespass_18 ?_
    refine R_iald C hd y3 h dX10_isTrespass_19 (fun x4 h => ?_)
    refine lv_if_ne (tgt := 47) hx hb dX10_isTrespass_20 (by decide) (fun c5 => ?_) (fun c5 => ?_)
    · rw [if_neg c5] at h
      refine lv_iconst (v := 0) hx hb dX10_isTrespass_47 (by decide) ?_
      exact R_zret C hr hd h dX10_isTrespass_48
    · rw [if_pos c5] at h
      refine lv_aload_n hx hb dX10_isTrespass_23 rfl (lv_at hl 0 rfl) ?_
      refine gX10_92 C hd (rfl : kd 142 = 10) (q := 162) rfl dX10_isTrespass_24 (fun y6 => ?_)
      refine lv_iload_n hx hb dX10_isTrespass_27 rfl (lv_at hl 2 rfl) ?_
      refine R_iald C hd y6 h dX10_isTrespass_28 (fun x7 h => ?_)
      refine lv_iconst (v := -1) hx hb dX10_isTrespass_29 (by decide) ?_
      refine lv_icmp_eq (tgt := 47) hx hb dX10_isTrespass_30 (by decide) (fun c8 => ?_) (fun c8 => ?_)
      · rw [if_pos c8] at h
        refine lv_iconst (v := 0) hx hb dX10_isTrespass_47 (by decide) ?_
        exact R_zret C hr hd h dX10_isTrespass_48
      · rw [if_neg c8] at h
        refine lv_aload_n hx hb dX10_isTrespass_33 rfl (lv_at hl 0 rfl) ?_
        refine gX10_92 C hd (rfl : kd 142 = 10) (q := 162) rfl dX10_isTrespass_34 (fun y9 => ?_)
        refine lv_iload_n hx hb dX10_isTrespass_37 rfl (lv_at hl 2 rfl) ?_
        refine R_iald C hd y9 h dX10_isTrespass_38 (fun x10 h => ?_)
        refine lv_iload_n hx hb dX10_isTrespass_39 rfl (lv_at hl 1 rfl) ?_
        refine lv_icmp_eq (tgt := 47) hx hb dX10_isTrespass_40 (by decide) (fun c11 => ?_) (fun c11 => ?_)
        · rw [if_pos c11] at h
          refine lv_iconst (v := 0) hx hb dX10_isTrespass_47 (by decide) ?_
          exact R_zret C hr hd h dX10_isTrespass_48
        · rw [if_neg c11] at h
          refine lv_iconst (v := 1) hx hb dX10_isTrespass_43 (by decide) ?_
          refine lv_goto (tgt := 48) hx hb dX10_isTrespass_44 (by decide) ?_
          exact R_zret C hr hd h dX10_isTrespass_48
set_option maxRecDepth 20000 in
theorem ccX10_isTrespass (l : Launch) (G : Gt) {a1 : Int32} {a2 : Int32} {S : St} {res : (Int32 × St)}  (h : fX10_isTrespass a1 a2 S = some res) : Met l yX10_isTrespass (wm yX10_isTrespass cX10_isTrespass 3 (some .boolean)) (rmL 4 0 0) (PcW G S [.ref (gR G 142), .int a1, .int a2]) (QI G res.1 res.2) 0 0 (Ab G) := by
  refine Met.ofW (cc := cX10_isTrespass) (maxL := 3) (ret := (some .boolean)) (by decide) rfl ?_
  intro p e s m args below meth c s₁ B hml hv
  obtain ⟨rfl, hK, hP⟩ := hv
  have C : Cx p s m _ meth c cX10_isTrespass 3 RX10 G := ⟨⟨B.exec, B.bytes, hml, findClass_of_methodNamed B.named, fun w hw => atoms_spec (ws := wm yX10_isTrespass cX10_isTrespass 3 (some .boolean)) B.pre w (List.mem_cons_of_mem _ hw)⟩, B.notSynchronized, hK⟩
  have hl := lv_entry ([.ref (gR G 142), .int a1, .int a2]) (n := 3) (Nat.le_of_ble_eq_true rfl)
  rw [lg_entry_eq]
  generalize (lg_sl ([.ref (gR G 142), .int a1, .int a2]) ++ List.replicate (3 - (lg_sl ([.ref (gR G 142), .int a1, .int a2])).length) Slot.unset).toArray = ls at hl ⊢
  exact sfX10_isTrespass C B.returns  ⟨hP, va_S.rf⟩ hl h
def BX10_fineOf_40 (l1 : Int32) (l2 : Int32) (l3 : Int32) (s0 : Int32) (S : St) : Option (Int32 × St) :=
  rd S 145 4 fun x2 => (if x2 = 0 then vl (if s0 < 99 then s0 else 99) fun x21 => ri x21 S else wr S 165 0 s0 fun S => rd S 146 l2 fun x7 => wr S 165 1 x7 fun S => rd S 147 l2 fun x10 => wr S 165 2 x10 fun S => wr S 165 3 l3 fun S => rd S 159 l1 fun x14 => wr S 165 4 x14 fun S => rd S 145 4 fun x17 => bd (fX10_valueNow 155 x17 S) fun x18 S => vl (if x18 < 99 then x18 else 99) fun x19 => vl (if 0 < x19 then x19 else 0) fun x20 => ri x20 S)
set_option maxHeartbeats 4000000 in
set_option maxRecDepth 20000 in
theorem sBX10_fineOf_40 (C : Cx p s m args meth c cX10_fineOf 5 RX10 G) (hr : meth.sig.returnType = some .int) {l1 : Int32} {l2 : Int32} {l3 : Int32} {s0 : Int32} {S : St} {res : (Int32 × St)} {H : Heap} {locs : List Loc} {ls : Array Slot}  (hd : Dy G S s H locs) (hl : lv_has ls 5 [(0, .ref (gR G 142)), (1, .int l1), (2, .int l2), (3, .int l3)]) (h : BX10_fineOf_40 l1 l2 l3 s0 S = some res) : W p l e (rmL 5 0 0) s m args below meth c H locs 0 0 (MQ below (QI G res.1 res.2) args s 0 0 (Ab G)) (F0 m 40 ls [.int s0]) := by
  unfold BX10_fineOf_40 at h
  have hx := C.1.1
  have hb := C.1.2.1
  refine lv_istore (lv' := [(4, .int s0), (0, .ref (gR G 142)), (1, .int l1), (2, .int l2), (3, .int l3)]) hx hb dX10_fineOf_40 hl (by decide) rfl (fun ls hl => ?_)
  refine lv_aload_n hx hb dX10_fineOf_42 rfl (lv_at hl 1 rfl) ?_
  refine gX10_39 C hd (rfl : kd 142 = 10) (q := 145) rfl dX10_fineOf_43 (fun y1 => ?_)
  refine lv_iconst (v := 4) hx hb dX10_fineOf_46 (by decide) ?_
  refine R_iald C hd y1 h dX10_fineOf_47 (fun x2 h => ?_)
  refine lv_if_ne (tgt := 59) hx hb dX10_fineOf_48 (by decide) (fun c3 => ?_) (fun c3 => ?_)
  · rw [if_neg c3] at h
    refine lv_aload_n hx hb dX10_fineOf_59 rfl (lv_at hl 1 rfl) ?_
    refine gX10_101 C hd (rfl : kd 142 = 10) (q := 165) rfl dX10_fineOf_60 (fun y4 => ?_)
    refine lv_iconst (v := 0) hx hb dX10_fineOf_63 (by decide) ?_
    refine lv_iload hx hb dX10_fineOf_64 (lv_at hl 0 rfl) ?_
    refine R_iast C hd y4 h dX10_fineOf_66 (fun S H locs hd h => ?_)
    refine lv_aload_n hx hb dX10_fineOf_67 rfl (lv_at hl 1 rfl) ?_
    refine gX10_101 C hd (rfl : kd 142 = 10) (q := 165) rfl dX10_fineOf_68 (fun y5 => ?_)
    refine lv_iconst (v := 1) hx hb dX10_fineOf_71 (by decide) ?_
    refine lv_aload_n hx hb dX10_fineOf_72 rfl (lv_at hl 1 rfl) ?_
    refine gX10_43 C hd (rfl : kd 142 = 10) (q := 146) rfl dX10_fineOf_73 (fun y6 => ?_)
    refine lv_iload_n hx hb dX10_fineOf_76 rfl (lv_at hl 3 rfl) ?_
    refine R_iald C hd y6 h dX10_fineOf_77 (fun x7 h => ?_)
    refine R_iast C hd y5 h dX10_fineOf_78 (fun S H locs hd h => ?_)
    refine lv_aload_n hx hb dX10_fineOf_79 rfl (lv_at hl 1 rfl) ?_
    refine gX10_101 C hd (rfl : kd 142 = 10) (q := 165) rfl dX10_fineOf_80 (fun y8 => ?_)
    refine lv_iconst (v := 2) hx hb dX10_fineOf_83 (by decide) ?_
    refine lv_aload_n hx hb dX10_fineOf_84 rfl (lv_at hl 1 rfl) ?_
    refine gX10_45 C hd (rfl : kd 142 = 10) (q := 147) rfl dX10_fineOf_85 (fun y9 => ?_)
    refine lv_iload_n hx hb dX10_fineOf_88 rfl (lv_at hl 3 rfl) ?_
    refine R_iald C hd y9 h dX10_fineOf_89 (fun x10 h => ?_)
    refine R_iast C hd y8 h dX10_fineOf_90 (fun S H locs hd h => ?_)
    refine lv_aload_n hx hb dX10_fineOf_91 rfl (lv_at hl 1 rfl) ?_
    refine gX10_101 C hd (rfl : kd 142 = 10) (q := 165) rfl dX10_fineOf_92 (fun y11 => ?_)
    refine lv_iconst (v := 3) hx hb dX10_fineOf_95 (by decide) ?_
    refine lv_iload_n hx hb dX10_fineOf_96 rfl (lv_at hl 4 rfl) ?_
    refine R_iast C hd y11 h dX10_fineOf_97 (fun S H locs hd h => ?_)
    refine lv_aload_n hx hb dX10_fineOf_98 rfl (lv_at hl 1 rfl) ?_
    refine gX10_101 C hd (rfl : kd 142 = 10) (q := 165) rfl dX10_fineOf_99 (fun y12 => ?_)
    refine lv_iconst (v := 4) hx hb dX10_fineOf_102 (by decide) ?_
    refine lv_aload_n hx hb dX10_fineOf_103 rfl (lv_at hl 1 rfl) ?_
    refine gX10_83 C hd (rfl : kd 142 = 10) (q := 159) rfl dX10_fineOf_104 (fun y13 => ?_)
    refine lv_iload_n hx hb dX10_fineOf_107 rfl (lv_at hl 2 rfl) ?_
    refine R_iald C hd y13 h dX10_fineOf_108 (fun x14 h => ?_)
    refine R_iast C hd y12 h dX10_fineOf_109 (fun S H locs hd h => ?_)
    refine lv_iconst (v := 0) hx hb dX10_fineOf_110 (by decide) ?_
    refine lv_bipush (v := 99) hx hb dX10_fineOf_111 (by decide) ?_
    refine lv_aload_n hx hb dX10_fineOf_113 rfl (lv_at hl 1 rfl) ?_
    refine lv_aload_n hx hb dX10_fineOf_114 rfl (lv_at hl 1 rfl) ?_
    refine gX10_68 C hd (rfl : kd 142 = 10) (q := 155) rfl dX10_fineOf_115 (fun y15 => ?_)
    refine lv_aload_n hx hb dX10_fineOf_118 rfl (lv_at hl 1 rfl) ?_
    refine gX10_39 C hd (rfl : kd 142 = 10) (q := 145) rfl dX10_fineOf_119 (fun y16 => ?_)
    refine lv_iconst (v := 4) hx hb dX10_fineOf_122 (by decide) ?_
    refine R_iald C hd y16 h dX10_fineOf_123 (fun x17 h => ?_)
    obtain ⟨x18, S1, hc, h⟩ := bd_some h
    refine R_cVi C hd (ccX10_valueNow l G y15 hc) kX10_365 rfl (by decide) (rfl : kd 142 = 10) hl.1 ⟨by decide, by decide⟩ rfl rfl (Nat.le_of_ble_eq_true rfl) dX10_fineOf_124 ⟨Nat.zero_le _, Nat.zero_le _⟩ (fun H locs hd => ?_)
    generalize S1 = S at h hd
    refine R_mmin C hl.1 kmX10_204 (Nat.le_of_ble_eq_true rfl) (Nat.le_of_ble_eq_true rfl) (Nat.le_of_ble_eq_true rfl) (Nat.le_of_ble_eq_true rfl) dX10_fineOf_127 ?_
    refine R_vl h (fun x19 h => ?_)
    refine R_mmax C hl.1 kmX10_369 (Nat.le_of_ble_eq_true rfl) (Nat.le_of_ble_eq_true rfl) (Nat.le_of_ble_eq_true rfl) (Nat.le_of_ble_eq_true rfl) dX10_fineOf_130 ?_
    refine R_vl h (fun x20 h => ?_)
    exact R_iret C hr hd h dX10_fineOf_133
  · rw [if_pos c3] at h
    refine lv_bipush (v := 99) hx hb dX10_fineOf_51 (by decide) ?_
    refine lv_iload hx hb dX10_fineOf_53 (lv_at hl 0 rfl) ?_
    refine R_mmin C hl.1 kmX10_204 (Nat.le_of_ble_eq_true rfl) (Nat.le_of_ble_eq_true rfl) (Nat.le_of_ble_eq_true rfl) (Nat.le_of_ble_eq_true rfl) dX10_fineOf_55 ?_
    refine R_vl h (fun x21 h => ?_)
    exact R_iret C hr hd h dX10_fineOf_58
def fX10_fineOf (a1 : Int32) (a2 : Int32) (a3 : Int32) (S : St) : Option (Int32 × St) :=
  bd (fX10_placeOf a1 S) fun x2 S => rd S 164 ((8 * x2) + a2) fun x3 => (if x3 < 100000 then bd (fX10_placeOf a1 S) fun x6 S => rd S 164 ((8 * x6) + a2) fun x7 => (BX10_fineOf_40 a1 a2 a3 x7 S) else (BX10_fineOf_40 a1 a2 a3 99 S))
set_option maxHeartbeats 4000000 in
set_option maxRecDepth 20000 in
theorem sfX10_fineOf (C : Cx p s m args meth c cX10_fineOf 5 RX10 G) (hr : meth.sig.returnType = some .int) {a1 : Int32} {a2 : Int32} {a3 : Int32} {S : St} {res : (Int32 × St)} {H : Heap} {locs : List Loc} {ls : Array Slot}  (hd : Dy G S s H locs) (hl : lv_has ls 5 [(0, .ref (gR G 142)), (1, .int a1), (2, .int a2), (3, .int a3)]) (h : fX10_fineOf a1 a2 a3 S = some res) : W p l e (rmL 5 0 0) s m args below meth c H locs 0 0 (MQ below (QI G res.1 res.2) args s 0 0 (Ab G)) (F0 m 0 ls []) := by
  unfold fX10_fineOf at h
  have hx := C.1.1
  have hb := C.1.2.1
  refine lv_aload_n hx hb dX10_fineOf_0 rfl (lv_at hl 0 rfl) ?_
  refine gX10_98 C hd (rfl : kd 142 = 10) (q := 164) rfl dX10_fineOf_1 (fun y1 => ?_)
  refine lv_bipush (v := 8) hx hb dX10_fineOf_4 (by decide) ?_
  refine lv_aload_n hx hb dX10_fineOf_6 rfl (lv_at hl 0 rfl) ?_
  refine lv_iload_n hx hb dX10_fineOf_7 rfl (lv_at hl 1 rfl) ?_
  obtain ⟨x2, S1, hc, h⟩ := bd_some h
  refine R_cVi C hd (ccX10_placeOf l G  hc) kX10_359 rfl (by decide) (rfl : kd 142 = 10) hl.1 ⟨by decide, by decide⟩ rfl rfl (Nat.le_of_ble_eq_true rfl) dX10_fineOf_8 ⟨Nat.zero_le _, Nat.zero_le _⟩ (fun H locs hd => ?_)
  generalize S1 = S at h hd
  refine lv_imul hx hb dX10_fineOf_11 ?_
  refine lv_iload_n hx hb dX10_fineOf_12 rfl (lv_at hl 2 rfl) ?_
  refine lv_iadd hx hb dX10_fineOf_13 ?_
  refine R_iald C hd y1 h dX10_fineOf_14 (fun x3 h => ?_)
  refine lv_ldc hx hb C.1.2.2.2.1 (C.1.2.2.2.2 _ kcX10_203) dX10_fineOf_15 ?_
  refine lv_icmp_lt (tgt := 25) hx hb dX10_fineOf_17 (by decide) (fun c4 => ?_) (fun c4 => ?_)
  · rw [if_pos c4] at h
    refine lv_aload_n hx hb dX10_fineOf_25 rfl (lv_at hl 0 rfl) ?_
    refine gX10_98 C hd (rfl : kd 142 = 10) (q := 164) rfl dX10_fineOf_26 (fun y5 => ?_)
    refine lv_bipush (v := 8) hx hb dX10_fineOf_29 (by decide) ?_
    refine lv_aload_n hx hb dX10_fineOf_31 rfl (lv_at hl 0 rfl) ?_
    refine lv_iload_n hx hb dX10_fineOf_32 rfl (lv_at hl 1 rfl) ?_
    obtain ⟨x6, S1, hc, h⟩ := bd_some h
    refine R_cVi C hd (ccX10_placeOf l G  hc) kX10_359 rfl (by decide) (rfl : kd 142 = 10) hl.1 ⟨by decide, by decide⟩ rfl rfl (Nat.le_of_ble_eq_true rfl) dX10_fineOf_33 ⟨Nat.zero_le _, Nat.zero_le _⟩ (fun H locs hd => ?_)
    generalize S1 = S at h hd
    refine lv_imul hx hb dX10_fineOf_36 ?_
    refine lv_iload_n hx hb dX10_fineOf_37 rfl (lv_at hl 2 rfl) ?_
    refine lv_iadd hx hb dX10_fineOf_38 ?_
    refine R_iald C hd y5 h dX10_fineOf_39 (fun x7 h => ?_)
    exact sBX10_fineOf_40 C hr  hd (lv_sub hl [0, 1, 2, 3] rfl) h
  · rw [if_neg c4] at h
    refine lv_bipush (v := 99) hx hb dX10_fineOf_20 (by decide) ?_
    refine lv_goto (tgt := 40) hx hb dX10_fineOf_22 (by decide) ?_
    exact sBX10_fineOf_40 C hr  hd (lv_sub hl [0, 1, 2, 3] rfl) h
set_option maxRecDepth 20000 in
theorem ccX10_fineOf (l : Launch) (G : Gt) {a1 : Int32} {a2 : Int32} {a3 : Int32} {S : St} {res : (Int32 × St)}  (h : fX10_fineOf a1 a2 a3 S = some res) : Met l yX10_fineOf (wm yX10_fineOf cX10_fineOf 5 (some .int)) (rmL 5 0 0) (PcW G S [.ref (gR G 142), .int a1, .int a2, .int a3]) (QI G res.1 res.2) 0 0 (Ab G) := by
  refine Met.ofW (cc := cX10_fineOf) (maxL := 5) (ret := (some .int)) (by decide) rfl ?_
  intro p e s m args below meth c s₁ B hml hv
  obtain ⟨rfl, hK, hP⟩ := hv
  have C : Cx p s m _ meth c cX10_fineOf 5 RX10 G := ⟨⟨B.exec, B.bytes, hml, findClass_of_methodNamed B.named, fun w hw => atoms_spec (ws := wm yX10_fineOf cX10_fineOf 5 (some .int)) B.pre w (List.mem_cons_of_mem _ hw)⟩, B.notSynchronized, hK⟩
  have hl := lv_entry ([.ref (gR G 142), .int a1, .int a2, .int a3]) (n := 5) (Nat.le_of_ble_eq_true rfl)
  rw [lg_entry_eq]
  generalize (lg_sl ([.ref (gR G 142), .int a1, .int a2, .int a3]) ++ List.replicate (5 - (lg_sl ([.ref (gR G 142), .int a1, .int a2, .int a3])).length) Slot.unset).toArray = ls at hl ⊢
  exact sfX10_fineOf C B.returns  ⟨hP, va_S.rf⟩ hl h
def fX10_kept (a0 : Int32) (S : St) : Option (Int32 × St) :=
  vl (if a0 < 9999 then a0 else 9999) fun x1 => vl (if (-9999) < x1 then x1 else (-9999)) fun x2 => ri x2 S
set_option maxHeartbeats 4000000 in
set_option maxRecDepth 20000 in
theorem sfX10_kept (C : Cx p s m args meth c cX10_kept 1 RX10 G) (hr : meth.sig.returnType = some .int) {a0 : Int32} {S : St} {res : (Int32 × St)} {H : Heap} {locs : List Loc} {ls : Array Slot}  (hd : Dy G S s H locs) (hl : lv_has ls 1 [(0, .int a0)]) (h : fX10_kept a0 S = some res) : W p l e (rmL 3 0 0) s m args below meth c H locs 0 0 (MQ below (QI G res.1 res.2) args s 0 0 (Ab G)) (F0 m 0 ls []) := by
  unfold fX10_kept at h
  have hx := C.1.1
  have hb := C.1.2.1
  refine lv_sipush (v := -9999) hx hb dX10_kept_0 (by decide) ?_
  refine lv_sipush (v := 9999) hx hb dX10_kept_3 (by decide) ?_
  refine lv_iload_n hx hb dX10_kept_6 rfl (lv_at hl 0 rfl) ?_
  refine R_mmin C hl.1 kmX10_204 (Nat.le_of_ble_eq_true rfl) (Nat.le_of_ble_eq_true rfl) (Nat.le_of_ble_eq_true rfl) (Nat.le_of_ble_eq_true rfl) dX10_kept_7 ?_
  refine R_vl h (fun x1 h => ?_)
  refine R_mmax C hl.1 kmX10_369 (Nat.le_of_ble_eq_true rfl) (Nat.le_of_ble_eq_true rfl) (Nat.le_of_ble_eq_true rfl) (Nat.le_of_ble_eq_true rfl) dX10_kept_10 ?_
  refine R_vl h (fun x2 h => ?_)
  exact R_iret C hr hd h dX10_kept_13
set_option maxRecDepth 20000 in
theorem ccX10_kept (l : Launch) (G : Gt) {a0 : Int32} {S : St} {res : (Int32 × St)}  (h : fX10_kept a0 S = some res) : Met l yX10_kept (wm yX10_kept cX10_kept 1 (some .int)) (rmL 3 0 0) (PcW G S [.int a0]) (QI G res.1 res.2) 0 0 (Ab G) := by
  refine Met.ofW (cc := cX10_kept) (maxL := 1) (ret := (some .int)) (by decide) rfl ?_
  intro p e s m args below meth c s₁ B hml hv
  obtain ⟨rfl, hK, hP⟩ := hv
  have C : Cx p s m _ meth c cX10_kept 1 RX10 G := ⟨⟨B.exec, B.bytes, hml, findClass_of_methodNamed B.named, fun w hw => atoms_spec (ws := wm yX10_kept cX10_kept 1 (some .int)) B.pre w (List.mem_cons_of_mem _ hw)⟩, B.notSynchronized, hK⟩
  have hl := lv_entry ([.int a0]) (n := 1) (Nat.le_of_ble_eq_true rfl)
  rw [lg_entry_eq]
  generalize (lg_sl ([.int a0]) ++ List.replicate (1 - (lg_sl ([.int a0])).length) Slot.unset).toArray = ls at hl ⊢
  exact sfX10_kept C B.returns  ⟨hP, va_S.rf⟩ hl h
def BX10_sing_212 (r177 : Int32 → Int32 → Int32 → St → Option St) (l2 : Int32) (l3 : Int32) (l4 : Int32) (s1 : Int32) (s2 : Int32) (s3 : Int32) (S : St) : Option St :=
  wr S 158 s1 (s2 ||| s3) fun S => vl (l4 + 1) fun x1 => (r177 l2 l3 x1 S)
set_option maxHeartbeats 4000000 in
set_option maxRecDepth 20000 in
theorem sBX10_sing_212 (C : Cx p s m args meth c cX10_sing 5 RX10 G) (hr : meth.sig.returnType = none) {r177 : Int32 → Int32 → Int32 → St → Option St} (hr177 : ∀ (l2 : Int32) (l3 : Int32) (l4 : Int32) (S : St) (res : St) (H : Heap) (locs : List Loc) (ls : Array Slot), Dy G S s H locs → lv_has ls 5 [(0, .ref (gR G 142)), (2, .int l2), (3, .int l3), (4, .int l4)] → r177 l2 l3 l4 S = some res → W p l e (rmL 6 0 0) s m args below meth c H locs 0 0 (MQ below (QV G res) args s 0 0 (Ab G)) (F0 m 177 ls [])) {l2 : Int32} {l3 : Int32} {l4 : Int32} {s1 : Int32} {s2 : Int32} {s3 : Int32} {S : St} {res : St} {H : Heap} {locs : List Loc} {ls : Array Slot}  (hd : Dy G S s H locs) (hl : lv_has ls 5 [(0, .ref (gR G 142)), (2, .int l2), (3, .int l3), (4, .int l4)]) (h : BX10_sing_212 r177 l2 l3 l4 s1 s2 s3 S = some res) : W p l e (rmL 6 0 0) s m args below meth c H locs 0 0 (MQ below (QV G res) args s 0 0 (Ab G)) (F0 m 212 ls [.int s3, .int s2, .int s1, .ref (gR G 158)]) := by
  unfold BX10_sing_212 at h
  have hx := C.1.1
  have hb := C.1.2.1
  refine lv_ior hx hb dX10_sing_212 ?_
  refine R_iast C hd (rfl : kd 158 = 20) h dX10_sing_213 (fun S H locs hd h => ?_)
  refine R_vi h (fun x1 ex1 h => ?_)
  refine lv_iinc (v := x1) (lv' := [(4, .int x1), (0, .ref (gR G 142)), (2, .int l2), (3, .int l3)]) hx hb dX10_sing_214 hl (k := 3) rfl (by rw [ex1]; rfl) (by decide) rfl (fun ls hl => ?_)
  refine lv_goto (tgt := 177) hx hb dX10_sing_217 (by decide) ?_
  exact hr177 l2 l3 x1 _ _ _ _ _  hd (lv_sub hl [1, 2, 3, 0] rfl) h
def KX10_sing_177 (r177 : Int32 → Int32 → Int32 → St → Option St) (l2 : Int32) (l3 : Int32) (l4 : Int32) (S : St) : Option St :=
  rd S 145 2 fun x2 => (if x2 ≤ l4 then some S else rd S 158 l4 fun x5 => bd (fX10_isOf l3 l4 S) fun x6 S => (if x6 = 0 then (BX10_sing_212 r177 l2 l3 l4 l4 x5 0 S) else (BX10_sing_212 r177 l2 l3 l4 l4 x5 ((1 : Int32) <<< (l2 &&& 31)) S)))
set_option maxHeartbeats 4000000 in
set_option maxRecDepth 20000 in
theorem sKX10_sing_177 (C : Cx p s m args meth c cX10_sing 5 RX10 G) (hr : meth.sig.returnType = none) {r177 : Int32 → Int32 → Int32 → St → Option St} (hr177 : ∀ (l2 : Int32) (l3 : Int32) (l4 : Int32) (S : St) (res : St) (H : Heap) (locs : List Loc) (ls : Array Slot), Dy G S s H locs → lv_has ls 5 [(0, .ref (gR G 142)), (2, .int l2), (3, .int l3), (4, .int l4)] → r177 l2 l3 l4 S = some res → W p l e (rmL 6 0 0) s m args below meth c H locs 0 0 (MQ below (QV G res) args s 0 0 (Ab G)) (F0 m 177 ls [])) {l2 : Int32} {l3 : Int32} {l4 : Int32} {S : St} {res : St} {H : Heap} {locs : List Loc} {ls : Array Slot}  (hd : Dy G S s H locs) (hl : lv_has ls 5 [(0, .ref (gR G 142)), (2, .int l2), (3, .int l3), (4, .int l4)]) (h : KX10_sing_177 r177 l2 l3 l4 S = some res) : W p l e (rmL 6 0 0) s m args below meth c H locs 0 0 (MQ below (QV G res) args s 0 0 (Ab G)) (F0 m 177 ls []) := by
  unfold KX10_sing_177 at h
  have hx := C.1.1
  have hb := C.1.2.1
  refine lv_iload hx hb dX10_sing_177 (lv_at hl 3 rfl) ?_
  refine lv_aload_n hx hb dX10_sing_179 rfl (lv_at hl 0 rfl) ?_
  refine gX10_39 C hd (rfl : kd 142 = 10) (q := 145) rfl dX10_sing_180 (fun y1 => ?_)
  refine lv_iconst (v := 2) hx hb dX10_sing_183 (by decide) ?_
  refine R_iald C hd y1 h dX10_sing_184 (fun x2 h => ?_)
  refine lv_icmp_ge (tgt := 220) hx hb dX10_sing_185 (by decide) (fun c3 => ?_) (fun c3 => ?_)
  · rw [if_pos c3] at h
    exact R_vret C hr hd h dX10_sing_220
  · rw [if_neg c3] at h
    refine lv_aload_n hx hb dX10_sing_188 rfl (lv_at hl 0 rfl) ?_
    refine gX10_81 C hd (rfl : kd 142 = 10) (q := 158) rfl dX10_sing_189 (fun y4 => ?_)
    refine lv_iload hx hb dX10_sing_192 (lv_at hl 3 rfl) ?_
    refine lv_dup2_11 hx hb dX10_sing_194 rfl rfl ?_
    refine R_iald C hd y4 h dX10_sing_195 (fun x5 h => ?_)
    refine lv_iload_n hx hb dX10_sing_196 rfl (lv_at hl 2 rfl) ?_
    refine lv_iload hx hb dX10_sing_197 (lv_at hl 3 rfl) ?_
    obtain ⟨x6, S1, hc, h⟩ := bd_some h
    refine R_cSi C hd (ccX10_isOf l G  hc) kX10_298  hl.1 ⟨by decide, by decide⟩ rfl rfl (Nat.le_of_ble_eq_true rfl) dX10_sing_199 ⟨Nat.zero_le _, Nat.zero_le _⟩ (fun H locs hd => ?_)
    generalize S1 = S at h hd
    refine lv_if_eq (tgt := 211) hx hb dX10_sing_202 (by decide) (fun c7 => ?_) (fun c7 => ?_)
    · rw [if_pos c7] at h
      refine lv_iconst (v := 0) hx hb dX10_sing_211 (by decide) ?_
      exact sBX10_sing_212 C hr hr177  hd (lv_sub hl [0, 1, 2, 3] rfl) h
    · rw [if_neg c7] at h
      refine lv_iconst (v := 1) hx hb dX10_sing_205 (by decide) ?_
      refine lv_iload_n hx hb dX10_sing_206 rfl (lv_at hl 1 rfl) ?_
      refine lv_ishl hx hb dX10_sing_207 ?_
      refine lv_goto (tgt := 212) hx hb dX10_sing_208 (by decide) ?_
      exact sBX10_sing_212 C hr hr177  hd (lv_sub hl [0, 1, 2, 3] rfl) h
def LX10_sing_177 : Nat → Int32 → Int32 → Int32 → St → Option St
  | 0 => fun _ _ _ _ => none
  | n + 1 => fun l2 l3 l4 S => KX10_sing_177 (LX10_sing_177 n) l2 l3 l4 S
theorem sLX10_sing_177 (C : Cx p s m args meth c cX10_sing 5 RX10 G) (hr : meth.sig.returnType = none) : ∀ (n : Nat) (l2 : Int32) (l3 : Int32) (l4 : Int32) (S : St) (res : St) (H : Heap) (locs : List Loc) (ls : Array Slot), Dy G S s H locs → lv_has ls 5 [(0, .ref (gR G 142)), (2, .int l2), (3, .int l3), (4, .int l4)] → LX10_sing_177 n l2 l3 l4 S = some res → W p l e (rmL 6 0 0) s m args below meth c H locs 0 0 (MQ below (QV G res) args s 0 0 (Ab G)) (F0 m 177 ls []) := by
  intro n
  induction n with
  | zero => intro l2 l3 l4 S res H locs ls  hd hl h; cases h
  | succ n ih =>
    intro l2 l3 l4 S res H locs ls  hd hl h
    exact sKX10_sing_177 C hr ih  hd hl h
def BX10_sing_174 (l2 : Int32) (l3 : Int32) (S : St) : Option St :=
  (LX10_sing_177 FU l2 l3 0 S)
set_option maxHeartbeats 4000000 in
set_option maxRecDepth 20000 in
theorem sBX10_sing_174 (C : Cx p s m args meth c cX10_sing 5 RX10 G) (hr : meth.sig.returnType = none) {l2 : Int32} {l3 : Int32} {S : St} {res : St} {H : Heap} {locs : List Loc} {ls : Array Slot}  (hd : Dy G S s H locs) (hl : lv_has ls 5 [(0, .ref (gR G 142)), (2, .int l2), (3, .int l3)]) (h : BX10_sing_174 l2 l3 S = some res) : W p l e (rmL 6 0 0) s m args below meth c H locs 0 0 (MQ below (QV G res) args s 0 0 (Ab G)) (F0 m 174 ls []) := by
  unfold BX10_sing_174 at h
  have hx := C.1.1
  have hb := C.1.2.1
  refine lv_iconst (v := 0) hx hb dX10_sing_174 (by decide) ?_
  refine lv_istore (lv' := [(4, .int 0), (0, .ref (gR G 142)), (2, .int l2), (3, .int l3)]) hx hb dX10_sing_175 hl (by decide) rfl (fun ls hl => ?_)
  exact sLX10_sing_177 C hr _ l2 l3 0 _ _ _ _ _  hd (lv_sub hl [1, 2, 3, 0] rfl) h
def BX10_sing_17 (l1 : Int32) (s0 : Int32) (S : St) : Option St :=
  wr S 167 l1 s0 fun S => wr S 168 l1 ((-1)) fun S => (if s0 = (-1) then some S else bd (fX10_placeOf l1 S) fun x4 S => bd (fX10_hearers x4 l1 S) fun x5 S => bd (fX10_isTrespass l1 s0 S) fun x6 S => (if x6 = 0 then bd (fX10_placeOf l1 S) fun x8 S => (if s0 = x8 then (BX10_sing_174 s0 x5 S) else rd S 160 ((8 * l1) + s0) fun x11 => (if x11 ≤ 0 then (BX10_sing_174 s0 x5 S) else vl ((8 * l1) + s0) fun x14 => rd S 160 x14 fun x15 => wr S 160 x14 (x15 - 1) fun S => (BX10_sing_174 s0 x5 S))) else bd (fX10_bitsOf x5 S) fun x16 S => bd (fX10_fineOf l1 s0 x16 S) fun x17 S => rd S 159 l1 fun x20 => bd (fX10_kept (x20 - x17) S) fun x21 S => wr S 159 l1 x21 fun S => rd S 162 s0 fun x24 => rd S 162 s0 fun x27 => rd S 159 x27 fun x28 => bd (fX10_kept (x28 + x17) S) fun x29 S => wr S 159 x24 x29 fun S => wr S 168 l1 s0 fun S => pf S 142 35 ((S 142 35) + 1) fun S => (BX10_sing_174 s0 x5 S)))
set_option maxHeartbeats 4000000 in
set_option maxRecDepth 20000 in
theorem sBX10_sing_17 (C : Cx p s m args meth c cX10_sing 5 RX10 G) (hr : meth.sig.returnType = none) {l1 : Int32} {s0 : Int32} {S : St} {res : St} {H : Heap} {locs : List Loc} {ls : Array Slot}  (hd : Dy G S s H locs) (hl : lv_has ls 5 [(0, .ref (gR G 142)), (1, .int l1)]) (h : BX10_sing_17 l1 s0 S = some res) : W p l e (rmL 6 0 0) s m args below meth c H locs 0 0 (MQ below (QV G res) args s 0 0 (Ab G)) (F0 m 17 ls [.int s0]) := by
  unfold BX10_sing_17 at h
  have hx := C.1.1
  have hb := C.1.2.1
  refine lv_istore_n (lv' := [(2, .int s0), (0, .ref (gR G 142)), (1, .int l1)]) hx hb dX10_sing_17 rfl hl (by decide) rfl (fun ls hl => ?_)
  refine lv_aload_n hx hb dX10_sing_18 rfl (lv_at hl 1 rfl) ?_
  refine gX10_110 C hd (rfl : kd 142 = 10) (q := 167) rfl dX10_sing_19 (fun y1 => ?_)
  refine lv_iload_n hx hb dX10_sing_22 rfl (lv_at hl 2 rfl) ?_
  refine lv_iload_n hx hb dX10_sing_23 rfl (lv_at hl 0 rfl) ?_
  refine R_iast C hd y1 h dX10_sing_24 (fun S H locs hd h => ?_)
  refine lv_aload_n hx hb dX10_sing_25 rfl (lv_at hl 1 rfl) ?_
  refine gX10_113 C hd (rfl : kd 142 = 10) (q := 168) rfl dX10_sing_26 (fun y2 => ?_)
  refine lv_iload_n hx hb dX10_sing_29 rfl (lv_at hl 2 rfl) ?_
  refine lv_iconst (v := -1) hx hb dX10_sing_30 (by decide) ?_
  refine R_iast C hd y2 h dX10_sing_31 (fun S H locs hd h => ?_)
  refine lv_iload_n hx hb dX10_sing_32 rfl (lv_at hl 0 rfl) ?_
  refine lv_iconst (v := -1) hx hb dX10_sing_33 (by decide) ?_
  refine lv_icmp_ne (tgt := 38) hx hb dX10_sing_34 (by decide) (fun c3 => ?_) (fun c3 => ?_)
  · rw [if_neg c3] at h
    refine lv_aload_n hx hb dX10_sing_38 rfl (lv_at hl 1 rfl) ?_
    refine lv_aload_n hx hb dX10_sing_39 rfl (lv_at hl 1 rfl) ?_
    refine lv_iload_n hx hb dX10_sing_40 rfl (lv_at hl 2 rfl) ?_
    obtain ⟨x4, S1, hc, h⟩ := bd_some h
    refine R_cVi C hd (ccX10_placeOf l G  hc) kX10_359 rfl (by decide) (rfl : kd 142 = 10) hl.1 ⟨by decide, by decide⟩ rfl rfl (Nat.le_of_ble_eq_true rfl) dX10_sing_41 ⟨Nat.zero_le _, Nat.zero_le _⟩ (fun H locs hd => ?_)
    generalize S1 = S at h hd
    refine lv_iload_n hx hb dX10_sing_44 rfl (lv_at hl 2 rfl) ?_
    obtain ⟨x5, S1, hc, h⟩ := bd_some h
    refine R_cVi C hd (ccX10_hearers l G  hc) kX10_375 rfl (by decide) (rfl : kd 142 = 10) hl.1 ⟨by decide, by decide⟩ rfl rfl (Nat.le_of_ble_eq_true rfl) dX10_sing_45 ⟨Nat.zero_le _, Nat.zero_le _⟩ (fun H locs hd => ?_)
    generalize S1 = S at h hd
    refine lv_istore_n (lv' := [(3, .int x5), (2, .int s0), (0, .ref (gR G 142)), (1, .int l1)]) hx hb dX10_sing_48 rfl hl (by decide) rfl (fun ls hl => ?_)
    refine lv_aload_n hx hb dX10_sing_49 rfl (lv_at hl 2 rfl) ?_
    refine lv_iload_n hx hb dX10_sing_50 rfl (lv_at hl 3 rfl) ?_
    refine lv_iload_n hx hb dX10_sing_51 rfl (lv_at hl 1 rfl) ?_
    obtain ⟨x6, S1, hc, h⟩ := bd_some h
    refine R_cVi C hd (ccX10_isTrespass l G  hc) kX10_377 rfl (by decide) (rfl : kd 142 = 10) hl.1 ⟨by decide, by decide⟩ rfl rfl (Nat.le_of_ble_eq_true rfl) dX10_sing_52 ⟨Nat.zero_le _, Nat.zero_le _⟩ (fun H locs hd => ?_)
    generalize S1 = S at h hd
    refine lv_if_eq (tgt := 136) hx hb dX10_sing_55 (by decide) (fun c7 => ?_) (fun c7 => ?_)
    · rw [if_pos c7] at h
      refine lv_iload_n hx hb dX10_sing_136 rfl (lv_at hl 1 rfl) ?_
      refine lv_aload_n hx hb dX10_sing_137 rfl (lv_at hl 2 rfl) ?_
      refine lv_iload_n hx hb dX10_sing_138 rfl (lv_at hl 3 rfl) ?_
      obtain ⟨x8, S1, hc, h⟩ := bd_some h
      refine R_cVi C hd (ccX10_placeOf l G  hc) kX10_359 rfl (by decide) (rfl : kd 142 = 10) hl.1 ⟨by decide, by decide⟩ rfl rfl (Nat.le_of_ble_eq_true rfl) dX10_sing_139 ⟨Nat.zero_le _, Nat.zero_le _⟩ (fun H locs hd => ?_)
      generalize S1 = S at h hd
      refine lv_icmp_eq (tgt := 174) hx hb dX10_sing_142 (by decide) (fun c9 => ?_) (fun c9 => ?_)
      · rw [if_pos c9] at h
        exact sBX10_sing_174 C hr  hd (lv_sub hl [2, 1, 0] rfl) h
      · rw [if_neg c9] at h
        refine lv_aload_n hx hb dX10_sing_145 rfl (lv_at hl 2 rfl) ?_
        refine gX10_86 C hd (rfl : kd 142 = 10) (q := 160) rfl dX10_sing_146 (fun y10 => ?_)
        refine lv_bipush (v := 8) hx hb dX10_sing_149 (by decide) ?_
        refine lv_iload_n hx hb dX10_sing_151 rfl (lv_at hl 3 rfl) ?_
        refine lv_imul hx hb dX10_sing_152 ?_
        refine lv_iload_n hx hb dX10_sing_153 rfl (lv_at hl 1 rfl) ?_
        refine lv_iadd hx hb dX10_sing_154 ?_
        refine R_iald C hd y10 h dX10_sing_155 (fun x11 h => ?_)
        refine lv_if_le (tgt := 174) hx hb dX10_sing_156 (by decide) (fun c12 => ?_) (fun c12 => ?_)
        · rw [if_pos c12] at h
          exact sBX10_sing_174 C hr  hd (lv_sub hl [2, 1, 0] rfl) h
        · rw [if_neg c12] at h
          refine lv_aload_n hx hb dX10_sing_159 rfl (lv_at hl 2 rfl) ?_
          refine gX10_86 C hd (rfl : kd 142 = 10) (q := 160) rfl dX10_sing_160 (fun y13 => ?_)
          refine lv_bipush (v := 8) hx hb dX10_sing_163 (by decide) ?_
          refine lv_iload_n hx hb dX10_sing_165 rfl (lv_at hl 3 rfl) ?_
          refine lv_imul hx hb dX10_sing_166 ?_
          refine lv_iload_n hx hb dX10_sing_167 rfl (lv_at hl 1 rfl) ?_
          refine lv_iadd hx hb dX10_sing_168 ?_
          refine R_vl h (fun x14 h => ?_)
          refine lv_dup2_11 hx hb dX10_sing_169 rfl rfl ?_
          refine R_iald C hd y13 h dX10_sing_170 (fun x15 h => ?_)
          refine lv_iconst (v := 1) hx hb dX10_sing_171 (by decide) ?_
          refine lv_isub hx hb dX10_sing_172 ?_
          refine R_iast C hd y13 h dX10_sing_173 (fun S H locs hd h => ?_)
          exact sBX10_sing_174 C hr  hd (lv_sub hl [2, 1, 0] rfl) h
    · rw [if_neg c7] at h
      refine lv_aload_n hx hb dX10_sing_58 rfl (lv_at hl 2 rfl) ?_
      refine lv_iload_n hx hb dX10_sing_59 rfl (lv_at hl 3 rfl) ?_
      refine lv_iload_n hx hb dX10_sing_60 rfl (lv_at hl 1 rfl) ?_
      refine lv_iload_n hx hb dX10_sing_61 rfl (lv_at hl 0 rfl) ?_
      obtain ⟨x16, S1, hc, h⟩ := bd_some h
      refine R_cSi C hd (ccX10_bitsOf l G  hc) kX10_362  hl.1 ⟨by decide, by decide⟩ rfl rfl (Nat.le_of_ble_eq_true rfl) dX10_sing_62 ⟨Nat.zero_le _, Nat.zero_le _⟩ (fun H locs hd => ?_)
      generalize S1 = S at h hd
      obtain ⟨x17, S1, hc, h⟩ := bd_some h
      refine R_cVi C hd (ccX10_fineOf l G  hc) kX10_380 rfl (by decide) (rfl : kd 142 = 10) hl.1 ⟨by decide, by decide⟩ rfl rfl (Nat.le_of_ble_eq_true rfl) dX10_sing_65 ⟨Nat.zero_le _, Nat.zero_le _⟩ (fun H locs hd => ?_)
      generalize S1 = S at h hd
      refine lv_istore (lv' := [(4, .int x17), (3, .int x5), (2, .int s0), (0, .ref (gR G 142)), (1, .int l1)]) hx hb dX10_sing_68 hl (by decide) rfl (fun ls hl => ?_)
      refine lv_aload_n hx hb dX10_sing_70 rfl (lv_at hl 3 rfl) ?_
      refine gX10_83 C hd (rfl : kd 142 = 10) (q := 159) rfl dX10_sing_71 (fun y18 => ?_)
      refine lv_iload_n hx hb dX10_sing_74 rfl (lv_at hl 4 rfl) ?_
      refine lv_aload_n hx hb dX10_sing_75 rfl (lv_at hl 3 rfl) ?_
      refine gX10_83 C hd (rfl : kd 142 = 10) (q := 159) rfl dX10_sing_76 (fun y19 => ?_)
      refine lv_iload_n hx hb dX10_sing_79 rfl (lv_at hl 4 rfl) ?_
      refine R_iald C hd y19 h dX10_sing_80 (fun x20 h => ?_)
      refine lv_iload hx hb dX10_sing_81 (lv_at hl 0 rfl) ?_
      refine lv_isub hx hb dX10_sing_83 ?_
      obtain ⟨x21, S1, hc, h⟩ := bd_some h
      refine R_cSi C hd (ccX10_kept l G  hc) kX10_383  hl.1 ⟨by decide, by decide⟩ rfl rfl (Nat.le_of_ble_eq_true rfl) dX10_sing_84 ⟨Nat.zero_le _, Nat.zero_le _⟩ (fun H locs hd => ?_)
      generalize S1 = S at h hd
      refine R_iast C hd y18 h dX10_sing_87 (fun S H locs hd h => ?_)
      refine lv_aload_n hx hb dX10_sing_88 rfl (lv_at hl 3 rfl) ?_
      refine gX10_83 C hd (rfl : kd 142 = 10) (q := 159) rfl dX10_sing_89 (fun y22 => ?_)
      refine lv_aload_n hx hb dX10_sing_92 rfl (lv_at hl 3 rfl) ?_
      refine gX10_92 C hd (rfl : kd 142 = 10) (q := 162) rfl dX10_sing_93 (fun y23 => ?_)
      refine lv_iload_n hx hb dX10_sing_96 rfl (lv_at hl 2 rfl) ?_
      refine R_iald C hd y23 h dX10_sing_97 (fun x24 h => ?_)
      refine lv_aload_n hx hb dX10_sing_98 rfl (lv_at hl 3 rfl) ?_
      refine gX10_83 C hd (rfl : kd 142 = 10) (q := 159) rfl dX10_sing_99 (fun y25 => ?_)
      refine lv_aload_n hx hb dX10_sing_102 rfl (lv_at hl 3 rfl) ?_
      refine gX10_92 C hd (rfl : kd 142 = 10) (q := 162) rfl dX10_sing_103 (fun y26 => ?_)
      refine lv_iload_n hx hb dX10_sing_106 rfl (lv_at hl 2 rfl) ?_
      refine R_iald C hd y26 h dX10_sing_107 (fun x27 h => ?_)
      refine R_iald C hd y25 h dX10_sing_108 (fun x28 h => ?_)
      refine lv_iload hx hb dX10_sing_109 (lv_at hl 0 rfl) ?_
      refine lv_iadd hx hb dX10_sing_111 ?_
      obtain ⟨x29, S1, hc, h⟩ := bd_some h
      refine R_cSi C hd (ccX10_kept l G  hc) kX10_383  hl.1 ⟨by decide, by decide⟩ rfl rfl (Nat.le_of_ble_eq_true rfl) dX10_sing_112 ⟨Nat.zero_le _, Nat.zero_le _⟩ (fun H locs hd => ?_)
      generalize S1 = S at h hd
      refine R_iast C hd y22 h dX10_sing_115 (fun S H locs hd h => ?_)
      refine lv_aload_n hx hb dX10_sing_116 rfl (lv_at hl 3 rfl) ?_
      refine gX10_113 C hd (rfl : kd 142 = 10) (q := 168) rfl dX10_sing_117 (fun y30 => ?_)
      refine lv_iload_n hx hb dX10_sing_120 rfl (lv_at hl 4 rfl) ?_
      refine lv_iload_n hx hb dX10_sing_121 rfl (lv_at hl 2 rfl) ?_
      refine R_iast C hd y30 h dX10_sing_122 (fun S H locs hd h => ?_)
      refine lv_aload_n hx hb dX10_sing_123 rfl (lv_at hl 3 rfl) ?_
      refine lv_dup hx hb dX10_sing_124 rfl ?_
      refine gX10_340 C hd (rfl : kd 142 = 10) dX10_sing_125 ?_
      refine lv_iconst (v := 1) hx hb dX10_sing_128 (by decide) ?_
      refine lv_iadd hx hb dX10_sing_129 ?_
      refine pX10_340 C hd (rfl : kd 142 = 10) h dX10_sing_130 (fun S H locs hd h => ?_)
      refine lv_goto (tgt := 174) hx hb dX10_sing_133 (by decide) ?_
      exact sBX10_sing_174 C hr  hd (lv_sub hl [3, 2, 1] rfl) h
  · rw [if_pos c3] at h
    exact R_vret C hr hd h dX10_sing_37
def fX10_sing (a1 : Int32) (S : St) : Option St :=
  (if a1 = (S 142 41) then (BX10_sing_17 a1 ((-1)) S) else bd (fX10_tuneOf a1 S) fun x2 S => (BX10_sing_17 a1 x2 S))
set_option maxHeartbeats 4000000 in
set_option maxRecDepth 20000 in
theorem sfX10_sing (C : Cx p s m args meth c cX10_sing 5 RX10 G) (hr : meth.sig.returnType = none) {a1 : Int32} {S : St} {res : St} {H : Heap} {locs : List Loc} {ls : Array Slot}  (hd : Dy G S s H locs) (hl : lv_has ls 5 [(0, .ref (gR G 142)), (1, .int a1)]) (h : fX10_sing a1 S = some res) : W p l e (rmL 6 0 0) s m args below meth c H locs 0 0 (MQ below (QV G res) args s 0 0 (Ab G)) (F0 m 0 ls []) := by
  unfold fX10_sing at h
  have hx := C.1.1
  have hb := C.1.2.1
  refine lv_iload_n hx hb dX10_sing_0 rfl (lv_at hl 1 rfl) ?_
  refine lv_aload_n hx hb dX10_sing_1 rfl (lv_at hl 0 rfl) ?_
  refine gX10_107 C hd (rfl : kd 142 = 10) dX10_sing_2 ?_
  refine lv_icmp_ne (tgt := 12) hx hb dX10_sing_5 (by decide) (fun c1 => ?_) (fun c1 => ?_)
  · rw [if_neg c1] at h
    refine lv_aload_n hx hb dX10_sing_12 rfl (lv_at hl 0 rfl) ?_
    refine lv_iload_n hx hb dX10_sing_13 rfl (lv_at hl 1 rfl) ?_
    obtain ⟨x2, S1, hc, h⟩ := bd_some h
    refine R_cVi C hd (ccX10_tuneOf l G  hc) kX10_372 rfl (by decide) (rfl : kd 142 = 10) hl.1 ⟨by decide, by decide⟩ rfl rfl (Nat.le_of_ble_eq_true rfl) dX10_sing_14 ⟨Nat.zero_le _, Nat.zero_le _⟩ (fun H locs hd => ?_)
    generalize S1 = S at h hd
    exact sBX10_sing_17 C hr  hd (lv_sub hl [0, 1] rfl) h
  · rw [if_pos c1] at h
    refine lv_iconst (v := -1) hx hb dX10_sing_8 (by decide) ?_
    refine lv_goto (tgt := 17) hx hb dX10_sing_9 (by decide) ?_
    exact sBX10_sing_17 C hr  hd (lv_sub hl [0, 1] rfl) h
set_option maxRecDepth 20000 in
theorem ccX10_sing (l : Launch) (G : Gt) {a1 : Int32} {S : St} {res : St}  (h : fX10_sing a1 S = some res) : Met l yX10_sing (wm yX10_sing cX10_sing 5 (none)) (rmL 6 0 0) (PcW G S [.ref (gR G 142), .int a1]) (QV G res) 0 0 (Ab G) := by
  refine Met.ofW (cc := cX10_sing) (maxL := 5) (ret := none) (by decide) rfl ?_
  intro p e s m args below meth c s₁ B hml hv
  obtain ⟨rfl, hK, hP⟩ := hv
  have C : Cx p s m _ meth c cX10_sing 5 RX10 G := ⟨⟨B.exec, B.bytes, hml, findClass_of_methodNamed B.named, fun w hw => atoms_spec (ws := wm yX10_sing cX10_sing 5 (none)) B.pre w (List.mem_cons_of_mem _ hw)⟩, B.notSynchronized, hK⟩
  have hl := lv_entry ([.ref (gR G 142), .int a1]) (n := 5) (Nat.le_of_ble_eq_true rfl)
  rw [lg_entry_eq]
  generalize (lg_sl ([.ref (gR G 142), .int a1]) ++ List.replicate (5 - (lg_sl ([.ref (gR G 142), .int a1])).length) Slot.unset).toArray = ls at hl ⊢
  exact sfX10_sing C B.returns  ⟨hP, va_S.rf⟩ hl h
def KX10_anHour_2 (r2 : Int32 → St → Option St) (l1 : Int32) (S : St) : Option St :=
  rd S 145 2 fun x2 => (if x2 ≤ l1 then pf S 142 34 ((S 142 34) + 1) fun S => some S else bv (fX10_sing l1 S) fun S => vl (l1 + 1) fun x4 => (r2 x4 S))
set_option maxHeartbeats 4000000 in
set_option maxRecDepth 20000 in
theorem sKX10_anHour_2 (C : Cx p s m args meth c cX10_anHour 2 RX10 G) (hr : meth.sig.returnType = none) {r2 : Int32 → St → Option St} (hr2 : ∀ (l1 : Int32) (S : St) (res : St) (H : Heap) (locs : List Loc) (ls : Array Slot), Dy G S s H locs → lv_has ls 2 [(0, .ref (gR G 142)), (1, .int l1)] → r2 l1 S = some res → W p l e (rmL 7 0 0) s m args below meth c H locs 0 0 (MQ below (QV G res) args s 0 0 (Ab G)) (F0 m 2 ls [])) {l1 : Int32} {S : St} {res : St} {H : Heap} {locs : List Loc} {ls : Array Slot}  (hd : Dy G S s H locs) (hl : lv_has ls 2 [(0, .ref (gR G 142)), (1, .int l1)]) (h : KX10_anHour_2 r2 l1 S = some res) : W p l e (rmL 7 0 0) s m args below meth c H locs 0 0 (MQ below (QV G res) args s 0 0 (Ab G)) (F0 m 2 ls []) := by
  unfold KX10_anHour_2 at h
  have hx := C.1.1
  have hb := C.1.2.1
  refine lv_iload_n hx hb dX10_anHour_2 rfl (lv_at hl 1 rfl) ?_
  refine lv_aload_n hx hb dX10_anHour_3 rfl (lv_at hl 0 rfl) ?_
  refine gX10_39 C hd (rfl : kd 142 = 10) (q := 145) rfl dX10_anHour_4 (fun y1 => ?_)
  refine lv_iconst (v := 2) hx hb dX10_anHour_7 (by decide) ?_
  refine R_iald C hd y1 h dX10_anHour_8 (fun x2 h => ?_)
  refine lv_icmp_ge (tgt := 23) hx hb dX10_anHour_9 (by decide) (fun c3 => ?_) (fun c3 => ?_)
  · rw [if_pos c3] at h
    refine lv_aload_n hx hb dX10_anHour_23 rfl (lv_at hl 0 rfl) ?_
    refine lv_dup hx hb dX10_anHour_24 rfl ?_
    refine gX10_338 C hd (rfl : kd 142 = 10) dX10_anHour_25 ?_
    refine lv_iconst (v := 1) hx hb dX10_anHour_28 (by decide) ?_
    refine lv_iadd hx hb dX10_anHour_29 ?_
    refine pX10_338 C hd (rfl : kd 142 = 10) h dX10_anHour_30 (fun S H locs hd h => ?_)
    exact R_vret C hr hd h dX10_anHour_33
  · rw [if_neg c3] at h
    refine lv_aload_n hx hb dX10_anHour_12 rfl (lv_at hl 0 rfl) ?_
    refine lv_iload_n hx hb dX10_anHour_13 rfl (lv_at hl 1 rfl) ?_
    obtain ⟨S1, hc, h⟩ := bv_some h
    refine R_cVv C hd (ccX10_sing l G  hc) kX10_386 rfl (by decide) (rfl : kd 142 = 10) hl.1 ⟨by decide, by decide⟩ rfl rfl (Nat.le_of_ble_eq_true rfl) dX10_anHour_14 ⟨Nat.zero_le _, Nat.zero_le _⟩ (fun H locs hd => ?_)
    generalize S1 = S at h hd
    refine R_vi h (fun x4 ex4 h => ?_)
    refine lv_iinc (v := x4) (lv' := [(1, .int x4), (0, .ref (gR G 142))]) hx hb dX10_anHour_17 hl (k := 1) rfl (by rw [ex4]; rfl) (by decide) rfl (fun ls hl => ?_)
    refine lv_goto (tgt := 2) hx hb dX10_anHour_20 (by decide) ?_
    exact hr2 x4 _ _ _ _ _  hd (lv_sub hl [1, 0] rfl) h
def LX10_anHour_2 : Nat → Int32 → St → Option St
  | 0 => fun _ _ => none
  | n + 1 => fun l1 S => KX10_anHour_2 (LX10_anHour_2 n) l1 S
theorem sLX10_anHour_2 (C : Cx p s m args meth c cX10_anHour 2 RX10 G) (hr : meth.sig.returnType = none) : ∀ (n : Nat) (l1 : Int32) (S : St) (res : St) (H : Heap) (locs : List Loc) (ls : Array Slot), Dy G S s H locs → lv_has ls 2 [(0, .ref (gR G 142)), (1, .int l1)] → LX10_anHour_2 n l1 S = some res → W p l e (rmL 7 0 0) s m args below meth c H locs 0 0 (MQ below (QV G res) args s 0 0 (Ab G)) (F0 m 2 ls []) := by
  intro n
  induction n with
  | zero => intro l1 S res H locs ls  hd hl h; cases h
  | succ n ih =>
    intro l1 S res H locs ls  hd hl h
    exact sKX10_anHour_2 C hr ih  hd hl h
def fX10_anHour  (S : St) : Option St :=
  (LX10_anHour_2 FU 0 S)
set_option maxHeartbeats 4000000 in
set_option maxRecDepth 20000 in
theorem sfX10_anHour (C : Cx p s m args meth c cX10_anHour 2 RX10 G) (hr : meth.sig.returnType = none)  {S : St} {res : St} {H : Heap} {locs : List Loc} {ls : Array Slot}  (hd : Dy G S s H locs) (hl : lv_has ls 2 [(0, .ref (gR G 142))]) (h : fX10_anHour  S = some res) : W p l e (rmL 7 0 0) s m args below meth c H locs 0 0 (MQ below (QV G res) args s 0 0 (Ab G)) (F0 m 0 ls []) := by
  unfold fX10_anHour at h
  have hx := C.1.1
  have hb := C.1.2.1
  refine lv_iconst (v := 0) hx hb dX10_anHour_0 (by decide) ?_
  refine lv_istore_n (lv' := [(1, .int 0), (0, .ref (gR G 142))]) hx hb dX10_anHour_1 rfl hl (by decide) rfl (fun ls hl => ?_)
  exact sLX10_anHour_2 C hr _ 0 _ _ _ _ _  hd (lv_sub hl [1, 0] rfl) h
set_option maxRecDepth 20000 in
theorem ccX10_anHour (l : Launch) (G : Gt)  {S : St} {res : St}  (h : fX10_anHour  S = some res) : Met l yX10_anHour (wm yX10_anHour cX10_anHour 2 (none)) (rmL 7 0 0) (PcW G S [.ref (gR G 142)]) (QV G res) 0 0 (Ab G) := by
  refine Met.ofW (cc := cX10_anHour) (maxL := 2) (ret := none) (by decide) rfl ?_
  intro p e s m args below meth c s₁ B hml hv
  obtain ⟨rfl, hK, hP⟩ := hv
  have C : Cx p s m _ meth c cX10_anHour 2 RX10 G := ⟨⟨B.exec, B.bytes, hml, findClass_of_methodNamed B.named, fun w hw => atoms_spec (ws := wm yX10_anHour cX10_anHour 2 (none)) B.pre w (List.mem_cons_of_mem _ hw)⟩, B.notSynchronized, hK⟩
  have hl := lv_entry ([.ref (gR G 142)]) (n := 2) (Nat.le_of_ble_eq_true rfl)
  rw [lg_entry_eq]
  generalize (lg_sl ([.ref (gR G 142)]) ++ List.replicate (2 - (lg_sl ([.ref (gR G 142)])).length) Slot.unset).toArray = ls at hl ⊢
  exact sfX10_anHour C B.returns  ⟨hP, va_S.rf⟩ hl h
def KX10_goOn_2 (r2 : Int32 → Int32 → St → Option St) (l1 : Int32) (l2 : Int32) (S : St) : Option St :=
  (if l1 ≤ l2 then some S else bv (fX10_anHour  S) fun S => vl (l2 + 1) fun x2 => (r2 l1 x2 S))
set_option maxHeartbeats 4000000 in
set_option maxRecDepth 20000 in
theorem sKX10_goOn_2 (C : Cx p s m args meth c cX10_goOn 3 RX10 G) (hr : meth.sig.returnType = none) {r2 : Int32 → Int32 → St → Option St} (hr2 : ∀ (l1 : Int32) (l2 : Int32) (S : St) (res : St) (H : Heap) (locs : List Loc) (ls : Array Slot), Dy G S s H locs → lv_has ls 3 [(0, .ref (gR G 142)), (1, .int l1), (2, .int l2)] → r2 l1 l2 S = some res → W p l e (rmL 8 0 0) s m args below meth c H locs 0 0 (MQ below (QV G res) args s 0 0 (Ab G)) (F0 m 2 ls [])) {l1 : Int32} {l2 : Int32} {S : St} {res : St} {H : Heap} {locs : List Loc} {ls : Array Slot}  (hd : Dy G S s H locs) (hl : lv_has ls 3 [(0, .ref (gR G 142)), (1, .int l1), (2, .int l2)]) (h : KX10_goOn_2 r2 l1 l2 S = some res) : W p l e (rmL 8 0 0) s m args below meth c H locs 0 0 (MQ below (QV G res) args s 0 0 (Ab G)) (F0 m 2 ls []) := by
  unfold KX10_goOn_2 at h
  have hx := C.1.1
  have hb := C.1.2.1
  refine lv_iload_n hx hb dX10_goOn_2 rfl (lv_at hl 2 rfl) ?_
  refine lv_iload_n hx hb dX10_goOn_3 rfl (lv_at hl 1 rfl) ?_
  refine lv_icmp_ge (tgt := 17) hx hb dX10_goOn_4 (by decide) (fun c1 => ?_) (fun c1 => ?_)
  · rw [if_pos c1] at h
    exact R_vret C hr hd h dX10_goOn_17
  · rw [if_neg c1] at h
    refine lv_aload_n hx hb dX10_goOn_7 rfl (lv_at hl 0 rfl) ?_
    obtain ⟨S1, hc, h⟩ := bv_some h
    refine R_cVv C hd (ccX10_anHour l G  hc) kX10_389 rfl (by decide) (rfl : kd 142 = 10) hl.1 ⟨by decide, by decide⟩ rfl rfl (Nat.le_of_ble_eq_true rfl) dX10_goOn_8 ⟨Nat.zero_le _, Nat.zero_le _⟩ (fun H locs hd => ?_)
    generalize S1 = S at h hd
    refine R_vi h (fun x2 ex2 h => ?_)
    refine lv_iinc (v := x2) (lv' := [(2, .int x2), (0, .ref (gR G 142)), (1, .int l1)]) hx hb dX10_goOn_11 hl (k := 2) rfl (by rw [ex2]; rfl) (by decide) rfl (fun ls hl => ?_)
    refine lv_goto (tgt := 2) hx hb dX10_goOn_14 (by decide) ?_
    exact hr2 l1 x2 _ _ _ _ _  hd (lv_sub hl [1, 2, 0] rfl) h
def LX10_goOn_2 : Nat → Int32 → Int32 → St → Option St
  | 0 => fun _ _ _ => none
  | n + 1 => fun l1 l2 S => KX10_goOn_2 (LX10_goOn_2 n) l1 l2 S
theorem sLX10_goOn_2 (C : Cx p s m args meth c cX10_goOn 3 RX10 G) (hr : meth.sig.returnType = none) : ∀ (n : Nat) (l1 : Int32) (l2 : Int32) (S : St) (res : St) (H : Heap) (locs : List Loc) (ls : Array Slot), Dy G S s H locs → lv_has ls 3 [(0, .ref (gR G 142)), (1, .int l1), (2, .int l2)] → LX10_goOn_2 n l1 l2 S = some res → W p l e (rmL 8 0 0) s m args below meth c H locs 0 0 (MQ below (QV G res) args s 0 0 (Ab G)) (F0 m 2 ls []) := by
  intro n
  induction n with
  | zero => intro l1 l2 S res H locs ls  hd hl h; cases h
  | succ n ih =>
    intro l1 l2 S res H locs ls  hd hl h
    exact sKX10_goOn_2 C hr ih  hd hl h
def fX10_goOn (a1 : Int32) (S : St) : Option St :=
  (LX10_goOn_2 FU a1 0 S)
set_option maxHeartbeats 4000000 in
set_option maxRecDepth 20000 in
theorem sfX10_goOn (C : Cx p s m args meth c cX10_goOn 3 RX10 G) (hr : meth.sig.returnType = none) {a1 : Int32} {S : St} {res : St} {H : Heap} {locs : List Loc} {ls : Array Slot}  (hd : Dy G S s H locs) (hl : lv_has ls 3 [(0, .ref (gR G 142)), (1, .int a1)]) (h : fX10_goOn a1 S = some res) : W p l e (rmL 8 0 0) s m args below meth c H locs 0 0 (MQ below (QV G res) args s 0 0 (Ab G)) (F0 m 0 ls []) := by
  unfold fX10_goOn at h
  have hx := C.1.1
  have hb := C.1.2.1
  refine lv_iconst (v := 0) hx hb dX10_goOn_0 (by decide) ?_
  refine lv_istore_n (lv' := [(2, .int 0), (0, .ref (gR G 142)), (1, .int a1)]) hx hb dX10_goOn_1 rfl hl (by decide) rfl (fun ls hl => ?_)
  exact sLX10_goOn_2 C hr _ a1 0 _ _ _ _ _  hd (lv_sub hl [1, 2, 0] rfl) h
set_option maxRecDepth 20000 in
theorem ccX10_goOn (l : Launch) (G : Gt) {a1 : Int32} {S : St} {res : St}  (h : fX10_goOn a1 S = some res) : Met l yX10_goOn (wm yX10_goOn cX10_goOn 3 (none)) (rmL 8 0 0) (PcW G S [.ref (gR G 142), .int a1]) (QV G res) 0 0 (Ab G) := by
  refine Met.ofW (cc := cX10_goOn) (maxL := 3) (ret := none) (by decide) rfl ?_
  intro p e s m args below meth c s₁ B hml hv
  obtain ⟨rfl, hK, hP⟩ := hv
  have C : Cx p s m _ meth c cX10_goOn 3 RX10 G := ⟨⟨B.exec, B.bytes, hml, findClass_of_methodNamed B.named, fun w hw => atoms_spec (ws := wm yX10_goOn cX10_goOn 3 (none)) B.pre w (List.mem_cons_of_mem _ hw)⟩, B.notSynchronized, hK⟩
  have hl := lv_entry ([.ref (gR G 142), .int a1]) (n := 3) (Nat.le_of_ble_eq_true rfl)
  rw [lg_entry_eq]
  generalize (lg_sl ([.ref (gR G 142), .int a1]) ++ List.replicate (3 - (lg_sl ([.ref (gR G 142), .int a1])).length) Slot.unset).toArray = ls at hl ⊢
  exact sfX10_goOn C B.returns  ⟨hP, va_S.rf⟩ hl h
def BX10_count_96 (l1 : Int32) (S : St) : Option (Int32 × St) :=
  rd S 156 (l1 - 8) fun x2 => ri x2 S
set_option maxHeartbeats 4000000 in
set_option maxRecDepth 20000 in
theorem sBX10_count_96 (C : Cx p s m args meth c cX10_count 2 RX10 G) (hr : meth.sig.returnType = some .int) {l1 : Int32} {S : St} {res : (Int32 × St)} {H : Heap} {locs : List Loc} {ls : Array Slot}  (hd : Dy G S s H locs) (hl : lv_has ls 2 [(0, .ref (gR G 142)), (1, .int l1)]) (h : BX10_count_96 l1 S = some res) : W p l e (rmL 4 0 0) s m args below meth c H locs 0 0 (MQ below (QI G res.1 res.2) args s 0 0 (Ab G)) (F0 m 96 ls []) := by
  unfold BX10_count_96 at h
  have hx := C.1.1
  have hb := C.1.2.1
  refine lv_aload_n hx hb dX10_count_96 rfl (lv_at hl 0 rfl) ?_
  refine gX10_71 C hd (rfl : kd 142 = 10) (q := 156) rfl dX10_count_97 (fun y1 => ?_)
  refine lv_iload_n hx hb dX10_count_100 rfl (lv_at hl 1 rfl) ?_
  refine lv_bipush (v := 8) hx hb dX10_count_101 (by decide) ?_
  refine lv_isub hx hb dX10_count_103 ?_
  refine R_iald C hd y1 h dX10_count_104 (fun x2 h => ?_)
  exact R_iret C hr hd h dX10_count_105
def fX10_count (a1 : Int32) (S : St) : Option (Int32 × St) :=
  pf S 142 3 0 fun S => (if a1 = 0 then rd S 145 a1 fun x3 => ri x3 S else (if a1 = 1 then rd S 145 a1 fun x6 => ri x6 S else (if a1 = 2 then rd S 145 a1 fun x9 => ri x9 S else (if a1 = 3 then ri (S 142 34) S else (if a1 = 4 then ri (S 142 35) S else (if a1 = 5 then ri (S 142 36) S else (if a1 = 6 then ri (S 142 37) S else (if a1 = 7 then ri (S 142 17) S else (if a1 = 8 then (BX10_count_96 a1 S) else (if a1 = 9 then (BX10_count_96 a1 S) else (if a1 = 10 then (BX10_count_96 a1 S) else bd (fX10_fail 1 S) fun x18 S => ri x18 S)))))))))))
set_option maxHeartbeats 4000000 in
set_option maxRecDepth 20000 in
theorem sfX10_count (C : Cx p s m args meth c cX10_count 2 RX10 G) (hr : meth.sig.returnType = some .int) {a1 : Int32} {S : St} {res : (Int32 × St)} {H : Heap} {locs : List Loc} {ls : Array Slot}  (hd : Dy G S s H locs) (hl : lv_has ls 2 [(0, .ref (gR G 142)), (1, .int a1)]) (h : fX10_count a1 S = some res) : W p l e (rmL 4 0 0) s m args below meth c H locs 0 0 (MQ below (QI G res.1 res.2) args s 0 0 (Ab G)) (F0 m 0 ls []) := by
  unfold fX10_count at h
  have hx := C.1.1
  have hb := C.1.2.1
  refine lv_aload_n hx hb dX10_count_0 rfl (lv_at hl 0 rfl) ?_
  refine lv_iconst (v := 0) hx hb dX10_count_1 (by decide) ?_
  refine pX10_167 C hd (rfl : kd 142 = 10) h dX10_count_2 (fun S H locs hd h => ?_)
  refine lv_iload_n hx hb dX10_count_5 rfl (lv_at hl 1 rfl) ?_
  by_cases c1 : a1 = 0
  · rw [if_pos c1] at h
    refine lv_tableIn (tgt := 64) hx hb dX10_count_6 (by rw [c1]; decide) (by rw [c1]; decide) (by rw [c1] <;> rfl) (by decide) ?_
    refine lv_aload_n hx hb dX10_count_64 rfl (lv_at hl 0 rfl) ?_
    refine gX10_39 C hd (rfl : kd 142 = 10) (q := 145) rfl dX10_count_65 (fun y2 => ?_)
    refine lv_iload_n hx hb dX10_count_68 rfl (lv_at hl 1 rfl) ?_
    refine R_iald C hd y2 h dX10_count_69 (fun x3 h => ?_)
    exact R_iret C hr hd h dX10_count_70
  rw [if_neg c1] at h
  by_cases c4 : a1 = 1
  · rw [if_pos c4] at h
    refine lv_tableIn (tgt := 64) hx hb dX10_count_6 (by rw [c4]; decide) (by rw [c4]; decide) (by rw [c4] <;> rfl) (by decide) ?_
    refine lv_aload_n hx hb dX10_count_64 rfl (lv_at hl 0 rfl) ?_
    refine gX10_39 C hd (rfl : kd 142 = 10) (q := 145) rfl dX10_count_65 (fun y5 => ?_)
    refine lv_iload_n hx hb dX10_count_68 rfl (lv_at hl 1 rfl) ?_
    refine R_iald C hd y5 h dX10_count_69 (fun x6 h => ?_)
    exact R_iret C hr hd h dX10_count_70
  rw [if_neg c4] at h
  by_cases c7 : a1 = 2
  · rw [if_pos c7] at h
    refine lv_tableIn (tgt := 64) hx hb dX10_count_6 (by rw [c7]; decide) (by rw [c7]; decide) (by rw [c7] <;> rfl) (by decide) ?_
    refine lv_aload_n hx hb dX10_count_64 rfl (lv_at hl 0 rfl) ?_
    refine gX10_39 C hd (rfl : kd 142 = 10) (q := 145) rfl dX10_count_65 (fun y8 => ?_)
    refine lv_iload_n hx hb dX10_count_68 rfl (lv_at hl 1 rfl) ?_
    refine R_iald C hd y8 h dX10_count_69 (fun x9 h => ?_)
    exact R_iret C hr hd h dX10_count_70
  rw [if_neg c7] at h
  by_cases c10 : a1 = 3
  · rw [if_pos c10] at h
    refine lv_tableIn (tgt := 71) hx hb dX10_count_6 (by rw [c10]; decide) (by rw [c10]; decide) (by rw [c10] <;> rfl) (by decide) ?_
    refine lv_aload_n hx hb dX10_count_71 rfl (lv_at hl 0 rfl) ?_
    refine gX10_338 C hd (rfl : kd 142 = 10) dX10_count_72 ?_
    exact R_iret C hr hd h dX10_count_75
  rw [if_neg c10] at h
  by_cases c11 : a1 = 4
  · rw [if_pos c11] at h
    refine lv_tableIn (tgt := 76) hx hb dX10_count_6 (by rw [c11]; decide) (by rw [c11]; decide) (by rw [c11] <;> rfl) (by decide) ?_
    refine lv_aload_n hx hb dX10_count_76 rfl (lv_at hl 0 rfl) ?_
    refine gX10_340 C hd (rfl : kd 142 = 10) dX10_count_77 ?_
    exact R_iret C hr hd h dX10_count_80
  rw [if_neg c11] at h
  by_cases c12 : a1 = 5
  · rw [if_pos c12] at h
    refine lv_tableIn (tgt := 81) hx hb dX10_count_6 (by rw [c12]; decide) (by rw [c12]; decide) (by rw [c12] <;> rfl) (by decide) ?_
    refine lv_aload_n hx hb dX10_count_81 rfl (lv_at hl 0 rfl) ?_
    refine gX10_346 C hd (rfl : kd 142 = 10) dX10_count_82 ?_
    exact R_iret C hr hd h dX10_count_85
  rw [if_neg c12] at h
  by_cases c13 : a1 = 6
  · rw [if_pos c13] at h
    refine lv_tableIn (tgt := 86) hx hb dX10_count_6 (by rw [c13]; decide) (by rw [c13]; decide) (by rw [c13] <;> rfl) (by decide) ?_
    refine lv_aload_n hx hb dX10_count_86 rfl (lv_at hl 0 rfl) ?_
    refine gX10_349 C hd (rfl : kd 142 = 10) dX10_count_87 ?_
    exact R_iret C hr hd h dX10_count_90
  rw [if_neg c13] at h
  by_cases c14 : a1 = 7
  · rw [if_pos c14] at h
    refine lv_tableIn (tgt := 91) hx hb dX10_count_6 (by rw [c14]; decide) (by rw [c14]; decide) (by rw [c14] <;> rfl) (by decide) ?_
    refine lv_aload_n hx hb dX10_count_91 rfl (lv_at hl 0 rfl) ?_
    refine gX10_174 C hd (rfl : kd 142 = 10) dX10_count_92 ?_
    exact R_iret C hr hd h dX10_count_95
  rw [if_neg c14] at h
  by_cases c15 : a1 = 8
  · rw [if_pos c15] at h
    refine lv_tableIn (tgt := 96) hx hb dX10_count_6 (by rw [c15]; decide) (by rw [c15]; decide) (by rw [c15] <;> rfl) (by decide) ?_
    exact sBX10_count_96 C hr  hd (lv_sub hl [0, 1] rfl) h
  rw [if_neg c15] at h
  by_cases c16 : a1 = 9
  · rw [if_pos c16] at h
    refine lv_tableIn (tgt := 96) hx hb dX10_count_6 (by rw [c16]; decide) (by rw [c16]; decide) (by rw [c16] <;> rfl) (by decide) ?_
    exact sBX10_count_96 C hr  hd (lv_sub hl [0, 1] rfl) h
  rw [if_neg c16] at h
  by_cases c17 : a1 = 10
  · rw [if_pos c17] at h
    refine lv_tableIn (tgt := 96) hx hb dX10_count_6 (by rw [c17]; decide) (by rw [c17]; decide) (by rw [c17] <;> rfl) (by decide) ?_
    exact sBX10_count_96 C hr  hd (lv_sub hl [0, 1] rfl) h
  rw [if_neg c17] at h
  refine R_tab (tgt := 106) C dX10_count_6 (by decide) [0, 1, 2, 3, 4, 5, 6, 7, 8, 9, 10] (by decide) ?_ ?_
  · intro z hz; simp only [List.mem_cons, List.not_mem_nil, or_false] at hz; rcases hz with rfl | rfl | rfl | rfl | rfl | rfl | rfl | rfl | rfl | rfl | rfl <;> assumption
  refine lv_aload_n hx hb dX10_count_106 rfl (lv_at hl 0 rfl) ?_
  refine lv_iconst (v := 1) hx hb dX10_count_107 (by decide) ?_
  obtain ⟨x18, S1, hc, h⟩ := bd_some h
  refine R_cVi C hd (ccX10_fail l G  hc) kX10_325 rfl (by decide) (rfl : kd 142 = 10) hl.1 ⟨by decide, by decide⟩ rfl rfl (Nat.le_of_ble_eq_true rfl) dX10_count_108 ⟨Nat.zero_le _, Nat.zero_le _⟩ (fun H locs hd => ?_)
  generalize S1 = S at h hd
  exact R_iret C hr hd h dX10_count_111
set_option maxRecDepth 20000 in
theorem ccX10_count (l : Launch) (G : Gt) {a1 : Int32} {S : St} {res : (Int32 × St)}  (h : fX10_count a1 S = some res) : Met l yX10_count (wm yX10_count cX10_count 2 (some .int)) (rmL 4 0 0) (PcW G S [.ref (gR G 142), .int a1]) (QI G res.1 res.2) 0 0 (Ab G) := by
  refine Met.ofW (cc := cX10_count) (maxL := 2) (ret := (some .int)) (by decide) rfl ?_
  intro p e s m args below meth c s₁ B hml hv
  obtain ⟨rfl, hK, hP⟩ := hv
  have C : Cx p s m _ meth c cX10_count 2 RX10 G := ⟨⟨B.exec, B.bytes, hml, findClass_of_methodNamed B.named, fun w hw => atoms_spec (ws := wm yX10_count cX10_count 2 (some .int)) B.pre w (List.mem_cons_of_mem _ hw)⟩, B.notSynchronized, hK⟩
  have hl := lv_entry ([.ref (gR G 142), .int a1]) (n := 2) (Nat.le_of_ble_eq_true rfl)
  rw [lg_entry_eq]
  generalize (lg_sl ([.ref (gR G 142), .int a1]) ++ List.replicate (2 - (lg_sl ([.ref (gR G 142), .int a1])).length) Slot.unset).toArray = ls at hl ⊢
  exact sfX10_count C B.returns  ⟨hP, va_S.rf⟩ hl h
def BX10_thirds_114 (r4 : Int32 → Int32 → Int32 → St → Option (Int32 × St)) (l1 : Int32) (l3 : Int32) (s0 : Int32) (s1 : Int32) (S : St) : Option (Int32 × St) :=
  vl (s0 ||| s1) fun x1 => vl (l3 + 1) fun x2 => (r4 l1 x1 x2 S)
set_option maxHeartbeats 4000000 in
set_option maxRecDepth 20000 in
theorem sBX10_thirds_114 (C : Cx p s m args meth c cX10_thirds 6 RX10 G) (hr : meth.sig.returnType = some .int) {r4 : Int32 → Int32 → Int32 → St → Option (Int32 × St)} (hr4 : ∀ (l1 : Int32) (l2 : Int32) (l3 : Int32) (S : St) (res : (Int32 × St)) (H : Heap) (locs : List Loc) (ls : Array Slot), Dy G S s H locs → lv_has ls 6 [(0, .ref (gR G 142)), (1, .int l1), (2, .int l2), (3, .int l3)] → r4 l1 l2 l3 S = some res → W p l e (rmL 3 0 0) s m args below meth c H locs 0 0 (MQ below (QI G res.1 res.2) args s 0 0 (Ab G)) (F0 m 4 ls [])) {l1 : Int32} {l3 : Int32} {s0 : Int32} {s1 : Int32} {S : St} {res : (Int32 × St)} {H : Heap} {locs : List Loc} {ls : Array Slot}  (hd : Dy G S s H locs) (hl : lv_has ls 6 [(0, .ref (gR G 142)), (1, .int l1), (3, .int l3)]) (h : BX10_thirds_114 r4 l1 l3 s0 s1 S = some res) : W p l e (rmL 3 0 0) s m args below meth c H locs 0 0 (MQ below (QI G res.1 res.2) args s 0 0 (Ab G)) (F0 m 114 ls [.int s1, .int s0]) := by
  unfold BX10_thirds_114 at h
  have hx := C.1.1
  have hb := C.1.2.1
  refine lv_ior hx hb dX10_thirds_114 ?_
  refine R_vl h (fun x1 h => ?_)
  refine lv_istore_n (lv' := [(2, .int x1), (0, .ref (gR G 142)), (1, .int l1), (3, .int l3)]) hx hb dX10_thirds_115 rfl hl (by decide) rfl (fun ls hl => ?_)
  refine R_vi h (fun x2 ex2 h => ?_)
  refine lv_iinc (v := x2) (lv' := [(3, .int x2), (2, .int x1), (0, .ref (gR G 142)), (1, .int l1)]) hx hb dX10_thirds_116 hl (k := 3) rfl (by rw [ex2]; rfl) (by decide) rfl (fun ls hl => ?_)
  refine lv_goto (tgt := 4) hx hb dX10_thirds_119 (by decide) ?_
  exact hr4 l1 x1 x2 _ _ _ _ _  hd (lv_sub hl [2, 3, 1, 0] rfl) h
def BX10_thirds_101 (r4 : Int32 → Int32 → Int32 → St → Option (Int32 × St)) (l1 : Int32) (l2 : Int32) (l3 : Int32) (l4 : Int32) (S : St) : Option (Int32 × St) :=
  (if l4 = 0 then (BX10_thirds_114 r4 l1 l3 l2 0 S) else (BX10_thirds_114 r4 l1 l3 l2 ((1 : Int32) <<< (l3 &&& 31)) S))
set_option maxHeartbeats 4000000 in
set_option maxRecDepth 20000 in
theorem sBX10_thirds_101 (C : Cx p s m args meth c cX10_thirds 6 RX10 G) (hr : meth.sig.returnType = some .int) {r4 : Int32 → Int32 → Int32 → St → Option (Int32 × St)} (hr4 : ∀ (l1 : Int32) (l2 : Int32) (l3 : Int32) (S : St) (res : (Int32 × St)) (H : Heap) (locs : List Loc) (ls : Array Slot), Dy G S s H locs → lv_has ls 6 [(0, .ref (gR G 142)), (1, .int l1), (2, .int l2), (3, .int l3)] → r4 l1 l2 l3 S = some res → W p l e (rmL 3 0 0) s m args below meth c H locs 0 0 (MQ below (QI G res.1 res.2) args s 0 0 (Ab G)) (F0 m 4 ls [])) {l1 : Int32} {l2 : Int32} {l3 : Int32} {l4 : Int32} {S : St} {res : (Int32 × St)} {H : Heap} {locs : List Loc} {ls : Array Slot}  (hd : Dy G S s H locs) (hl : lv_has ls 6 [(0, .ref (gR G 142)), (1, .int l1), (2, .int l2), (3, .int l3), (4, .int l4)]) (h : BX10_thirds_101 r4 l1 l2 l3 l4 S = some res) : W p l e (rmL 3 0 0) s m args below meth c H locs 0 0 (MQ below (QI G res.1 res.2) args s 0 0 (Ab G)) (F0 m 101 ls []) := by
  unfold BX10_thirds_101 at h
  have hx := C.1.1
  have hb := C.1.2.1
  refine lv_iload_n hx hb dX10_thirds_101 rfl (lv_at hl 2 rfl) ?_
  refine lv_iload hx hb dX10_thirds_102 (lv_at hl 4 rfl) ?_
  refine lv_if_eq (tgt := 113) hx hb dX10_thirds_104 (by decide) (fun c1 => ?_) (fun c1 => ?_)
  · rw [if_pos c1] at h
    refine lv_iconst (v := 0) hx hb dX10_thirds_113 (by decide) ?_
    exact sBX10_thirds_114 C hr hr4  hd (lv_sub hl [0, 1, 3] rfl) h
  · rw [if_neg c1] at h
    refine lv_iconst (v := 1) hx hb dX10_thirds_107 (by decide) ?_
    refine lv_iload_n hx hb dX10_thirds_108 rfl (lv_at hl 3 rfl) ?_
    refine lv_ishl hx hb dX10_thirds_109 ?_
    refine lv_goto (tgt := 114) hx hb dX10_thirds_110 (by decide) ?_
    exact sBX10_thirds_114 C hr hr4  hd (lv_sub hl [0, 1, 3] rfl) h
def BX10_thirds_93 (r4 : Int32 → Int32 → Int32 → St → Option (Int32 × St)) (r39 : Int32 → Int32 → Int32 → Int32 → Int32 → St → Option (Int32 × St)) (l1 : Int32) (l2 : Int32) (l3 : Int32) (l5 : Int32) (s0 : Int32) (S : St) : Option (Int32 × St) :=
  vl (l5 + 1) fun x1 => (r39 l1 l2 l3 s0 x1 S)
set_option maxHeartbeats 4000000 in
set_option maxRecDepth 20000 in
theorem sBX10_thirds_93 (C : Cx p s m args meth c cX10_thirds 6 RX10 G) (hr : meth.sig.returnType = some .int) {r4 : Int32 → Int32 → Int32 → St → Option (Int32 × St)} {r39 : Int32 → Int32 → Int32 → Int32 → Int32 → St → Option (Int32 × St)} (hr4 : ∀ (l1 : Int32) (l2 : Int32) (l3 : Int32) (S : St) (res : (Int32 × St)) (H : Heap) (locs : List Loc) (ls : Array Slot), Dy G S s H locs → lv_has ls 6 [(0, .ref (gR G 142)), (1, .int l1), (2, .int l2), (3, .int l3)] → r4 l1 l2 l3 S = some res → W p l e (rmL 3 0 0) s m args below meth c H locs 0 0 (MQ below (QI G res.1 res.2) args s 0 0 (Ab G)) (F0 m 4 ls [])) (hr39 : ∀ (l1 : Int32) (l2 : Int32) (l3 : Int32) (l4 : Int32) (l5 : Int32) (S : St) (res : (Int32 × St)) (H : Heap) (locs : List Loc) (ls : Array Slot), Dy G S s H locs → lv_has ls 6 [(0, .ref (gR G 142)), (1, .int l1), (2, .int l2), (3, .int l3), (4, .int l4), (5, .int l5)] → r39 l1 l2 l3 l4 l5 S = some res → W p l e (rmL 3 0 0) s m args below meth c H locs 0 0 (MQ below (QI G res.1 res.2) args s 0 0 (Ab G)) (F0 m 39 ls [])) {l1 : Int32} {l2 : Int32} {l3 : Int32} {l5 : Int32} {s0 : Int32} {S : St} {res : (Int32 × St)} {H : Heap} {locs : List Loc} {ls : Array Slot}  (hd : Dy G S s H locs) (hl : lv_has ls 6 [(0, .ref (gR G 142)), (1, .int l1), (2, .int l2), (3, .int l3), (5, .int l5)]) (h : BX10_thirds_93 r4 r39 l1 l2 l3 l5 s0 S = some res) : W p l e (rmL 3 0 0) s m args below meth c H locs 0 0 (MQ below (QI G res.1 res.2) args s 0 0 (Ab G)) (F0 m 93 ls [.int s0]) := by
  unfold BX10_thirds_93 at h
  have hx := C.1.1
  have hb := C.1.2.1
  refine lv_istore (lv' := [(4, .int s0), (0, .ref (gR G 142)), (1, .int l1), (2, .int l2), (3, .int l3), (5, .int l5)]) hx hb dX10_thirds_93 hl (by decide) rfl (fun ls hl => ?_)
  refine R_vi h (fun x1 ex1 h => ?_)
  refine lv_iinc (v := x1) (lv' := [(5, .int x1), (4, .int s0), (0, .ref (gR G 142)), (1, .int l1), (2, .int l2), (3, .int l3)]) hx hb dX10_thirds_95 hl (k := 5) rfl (by rw [ex1]; rfl) (by decide) rfl (fun ls hl => ?_)
  refine lv_goto (tgt := 39) hx hb dX10_thirds_98 (by decide) ?_
  exact hr39 l1 l2 l3 s0 x1 _ _ _ _ _  hd (lv_sub hl [2, 3, 4, 5, 1, 0] rfl) h
def KX10_thirds_39 (r4 : Int32 → Int32 → Int32 → St → Option (Int32 × St)) (r39 : Int32 → Int32 → Int32 → Int32 → Int32 → St → Option (Int32 × St)) (l1 : Int32) (l2 : Int32) (l3 : Int32) (l4 : Int32) (l5 : Int32) (S : St) : Option (Int32 × St) :=
  rd S 147 l1 fun x2 => (if x2 ≤ l5 then (BX10_thirds_101 r4 l1 l2 l3 l4 S) else (if l4 = 0 then (BX10_thirds_101 r4 l1 l2 l3 l4 S) else rd S 148 ((6 * l3) + l5) fun x6 => rd S 148 ((6 * l1) + l5) fun x8 => rm' (x8 + 8) 10 fun x9 => (if x6 = x9 then (BX10_thirds_93 r4 r39 l1 l2 l3 l5 1 S) else (BX10_thirds_93 r4 r39 l1 l2 l3 l5 0 S))))
set_option maxHeartbeats 4000000 in
set_option maxRecDepth 20000 in
theorem sKX10_thirds_39 (C : Cx p s m args meth c cX10_thirds 6 RX10 G) (hr : meth.sig.returnType = some .int) {r4 : Int32 → Int32 → Int32 → St → Option (Int32 × St)} {r39 : Int32 → Int32 → Int32 → Int32 → Int32 → St → Option (Int32 × St)} (hr4 : ∀ (l1 : Int32) (l2 : Int32) (l3 : Int32) (S : St) (res : (Int32 × St)) (H : Heap) (locs : List Loc) (ls : Array Slot), Dy G S s H locs → lv_has ls 6 [(0, .ref (gR G 142)), (1, .int l1), (2, .int l2), (3, .int l3)] → r4 l1 l2 l3 S = some res → W p l e (rmL 3 0 0) s m args below meth c H locs 0 0 (MQ below (QI G res.1 res.2) args s 0 0 (Ab G)) (F0 m 4 ls [])) (hr39 : ∀ (l1 : Int32) (l2 : Int32) (l3 : Int32) (l4 : Int32) (l5 : Int32) (S : St) (res : (Int32 × St)) (H : Heap) (locs : List Loc) (ls : Array Slot), Dy G S s H locs → lv_has ls 6 [(0, .ref (gR G 142)), (1, .int l1), (2, .int l2), (3, .int l3), (4, .int l4), (5, .int l5)] → r39 l1 l2 l3 l4 l5 S = some res → W p l e (rmL 3 0 0) s m args below meth c H locs 0 0 (MQ below (QI G res.1 res.2) args s 0 0 (Ab G)) (F0 m 39 ls [])) {l1 : Int32} {l2 : Int32} {l3 : Int32} {l4 : Int32} {l5 : Int32} {S : St} {res : (Int32 × St)} {H : Heap} {locs : List Loc} {ls : Array Slot}  (hd : Dy G S s H locs) (hl : lv_has ls 6 [(0, .ref (gR G 142)), (1, .int l1), (2, .int l2), (3, .int l3), (4, .int l4), (5, .int l5)]) (h : KX10_thirds_39 r4 r39 l1 l2 l3 l4 l5 S = some res) : W p l e (rmL 3 0 0) s m args below meth c H locs 0 0 (MQ below (QI G res.1 res.2) args s 0 0 (Ab G)) (F0 m 39 ls []) := by
  unfold KX10_thirds_39 at h
  have hx := C.1.1
  have hb := C.1.2.1
  refine lv_iload hx hb dX10_thirds_39 (lv_at hl 5 rfl) ?_
  refine lv_aload_n hx hb dX10_thirds_41 rfl (lv_at hl 0 rfl) ?_
  refine gX10_45 C hd (rfl : kd 142 = 10) (q := 147) rfl dX10_thirds_42 (fun y1 => ?_)
  refine lv_iload_n hx hb dX10_thirds_45 rfl (lv_at hl 1 rfl) ?_
  refine R_iald C hd y1 h dX10_thirds_46 (fun x2 h => ?_)
  refine lv_icmp_ge (tgt := 101) hx hb dX10_thirds_47 (by decide) (fun c3 => ?_) (fun c3 => ?_)
  · rw [if_pos c3] at h
    exact sBX10_thirds_101 C hr hr4  hd (lv_sub hl [0, 1, 2, 3, 4] rfl) h
  · rw [if_neg c3] at h
    refine lv_iload hx hb dX10_thirds_50 (lv_at hl 4 rfl) ?_
    refine lv_if_eq (tgt := 101) hx hb dX10_thirds_52 (by decide) (fun c4 => ?_) (fun c4 => ?_)
    · rw [if_pos c4] at h
      exact sBX10_thirds_101 C hr hr4  hd (lv_sub hl [0, 1, 2, 3, 4] rfl) h
    · rw [if_neg c4] at h
      refine lv_aload_n hx hb dX10_thirds_55 rfl (lv_at hl 0 rfl) ?_
      refine gX10_48 C hd (rfl : kd 142 = 10) (q := 148) rfl dX10_thirds_56 (fun y5 => ?_)
      refine lv_bipush (v := 6) hx hb dX10_thirds_59 (by decide) ?_
      refine lv_iload_n hx hb dX10_thirds_61 rfl (lv_at hl 3 rfl) ?_
      refine lv_imul hx hb dX10_thirds_62 ?_
      refine lv_iload hx hb dX10_thirds_63 (lv_at hl 5 rfl) ?_
      refine lv_iadd hx hb dX10_thirds_65 ?_
      refine R_iald C hd y5 h dX10_thirds_66 (fun x6 h => ?_)
      refine lv_aload_n hx hb dX10_thirds_67 rfl (lv_at hl 0 rfl) ?_
      refine gX10_48 C hd (rfl : kd 142 = 10) (q := 148) rfl dX10_thirds_68 (fun y7 => ?_)
      refine lv_bipush (v := 6) hx hb dX10_thirds_71 (by decide) ?_
      refine lv_iload_n hx hb dX10_thirds_73 rfl (lv_at hl 1 rfl) ?_
      refine lv_imul hx hb dX10_thirds_74 ?_
      refine lv_iload hx hb dX10_thirds_75 (lv_at hl 5 rfl) ?_
      refine lv_iadd hx hb dX10_thirds_77 ?_
      refine R_iald C hd y7 h dX10_thirds_78 (fun x8 h => ?_)
      refine lv_bipush (v := 8) hx hb dX10_thirds_79 (by decide) ?_
      refine lv_iadd hx hb dX10_thirds_81 ?_
      refine lv_bipush (v := 10) hx hb dX10_thirds_82 (by decide) ?_
      refine R_rem C h dX10_thirds_84 (fun x9 h => ?_)
      refine lv_icmp_ne (tgt := 92) hx hb dX10_thirds_85 (by decide) (fun c10 => ?_) (fun c10 => ?_)
      · rw [if_neg c10] at h
        refine lv_iconst (v := 0) hx hb dX10_thirds_92 (by decide) ?_
        exact sBX10_thirds_93 C hr hr4 hr39  hd (lv_sub hl [0, 1, 2, 3, 5] rfl) h
      · rw [if_pos c10] at h
        refine lv_iconst (v := 1) hx hb dX10_thirds_88 (by decide) ?_
        refine lv_goto (tgt := 93) hx hb dX10_thirds_89 (by decide) ?_
        exact sBX10_thirds_93 C hr hr4 hr39  hd (lv_sub hl [0, 1, 2, 3, 5] rfl) h
def LX10_thirds_39 (r4 : Int32 → Int32 → Int32 → St → Option (Int32 × St)) : Nat → Int32 → Int32 → Int32 → Int32 → Int32 → St → Option (Int32 × St)
  | 0 => fun _ _ _ _ _ _ => none
  | n + 1 => fun l1 l2 l3 l4 l5 S => KX10_thirds_39 r4 (LX10_thirds_39 r4 n) l1 l2 l3 l4 l5 S
theorem sLX10_thirds_39 (C : Cx p s m args meth c cX10_thirds 6 RX10 G) (hr : meth.sig.returnType = some .int) {r4 : Int32 → Int32 → Int32 → St → Option (Int32 × St)} (hr4 : ∀ (l1 : Int32) (l2 : Int32) (l3 : Int32) (S : St) (res : (Int32 × St)) (H : Heap) (locs : List Loc) (ls : Array Slot), Dy G S s H locs → lv_has ls 6 [(0, .ref (gR G 142)), (1, .int l1), (2, .int l2), (3, .int l3)] → r4 l1 l2 l3 S = some res → W p l e (rmL 3 0 0) s m args below meth c H locs 0 0 (MQ below (QI G res.1 res.2) args s 0 0 (Ab G)) (F0 m 4 ls [])) : ∀ (n : Nat) (l1 : Int32) (l2 : Int32) (l3 : Int32) (l4 : Int32) (l5 : Int32) (S : St) (res : (Int32 × St)) (H : Heap) (locs : List Loc) (ls : Array Slot), Dy G S s H locs → lv_has ls 6 [(0, .ref (gR G 142)), (1, .int l1), (2, .int l2), (3, .int l3), (4, .int l4), (5, .int l5)] → LX10_thirds_39 r4 n l1 l2 l3 l4 l5 S = some res → W p l e (rmL 3 0 0) s m args below meth c H locs 0 0 (MQ below (QI G res.1 res.2) args s 0 0 (Ab G)) (F0 m 39 ls []) := by
  intro n
  induction n with
  | zero => intro l1 l2 l3 l4 l5 S res H locs ls  hd hl h; cases h
  | succ n ih =>
    intro l1 l2 l3 l4 l5 S res H locs ls  hd hl h
    exact sKX10_thirds_39 C hr hr4 ih  hd hl h
def BX10_thirds_34 (r4 : Int32 → Int32 → Int32 → St → Option (Int32 × St)) (l1 : Int32) (l2 : Int32) (l3 : Int32) (s0 : Int32) (S : St) : Option (Int32 × St) :=
  (LX10_thirds_39 r4 FU l1 l2 l3 s0 0 S)
set_option maxHeartbeats 4000000 in
set_option maxRecDepth 20000 in
theorem sBX10_thirds_34 (C : Cx p s m args meth c cX10_thirds 6 RX10 G) (hr : meth.sig.returnType = some .int) {r4 : Int32 → Int32 → Int32 → St → Option (Int32 × St)} (hr4 : ∀ (l1 : Int32) (l2 : Int32) (l3 : Int32) (S : St) (res : (Int32 × St)) (H : Heap) (locs : List Loc) (ls : Array Slot), Dy G S s H locs → lv_has ls 6 [(0, .ref (gR G 142)), (1, .int l1), (2, .int l2), (3, .int l3)] → r4 l1 l2 l3 S = some res → W p l e (rmL 3 0 0) s m args below meth c H locs 0 0 (MQ below (QI G res.1 res.2) args s 0 0 (Ab G)) (F0 m 4 ls [])) {l1 : Int32} {l2 : Int32} {l3 : Int32} {s0 : Int32} {S : St} {res : (Int32 × St)} {H : Heap} {locs : List Loc} {ls : Array Slot}  (hd : Dy G S s H locs) (hl : lv_has ls 6 [(0, .ref (gR G 142)), (1, .int l1), (2, .int l2), (3, .int l3)]) (h : BX10_thirds_34 r4 l1 l2 l3 s0 S = some res) : W p l e (rmL 3 0 0) s m args below meth c H locs 0 0 (MQ below (QI G res.1 res.2) args s 0 0 (Ab G)) (F0 m 34 ls [.int s0]) := by
  unfold BX10_thirds_34 at h
  have hx := C.1.1
  have hb := C.1.2.1
  refine lv_istore (lv' := [(4, .int s0), (0, .ref (gR G 142)), (1, .int l1), (2, .int l2), (3, .int l3)]) hx hb dX10_thirds_34 hl (by decide) rfl (fun ls hl => ?_)
  refine lv_iconst (v := 0) hx hb dX10_thirds_36 (by decide) ?_
  refine lv_istore (lv' := [(5, .int 0), (4, .int s0), (0, .ref (gR G 142)), (1, .int l1), (2, .int l2), (3, .int l3)]) hx hb dX10_thirds_37 hl (by decide) rfl (fun ls hl => ?_)
  exact sLX10_thirds_39 C hr hr4 _ l1 l2 l3 s0 0 _ _ _ _ _  hd (lv_sub hl [2, 3, 4, 5, 1, 0] rfl) h
def KX10_thirds_4 (r4 : Int32 → Int32 → Int32 → St → Option (Int32 × St)) (l1 : Int32) (l2 : Int32) (l3 : Int32) (S : St) : Option (Int32 × St) :=
  rd S 145 0 fun x2 => (if x2 ≤ l3 then ri l2 S else rd S 147 l3 fun x5 => rd S 147 l1 fun x7 => (if x5 = x7 then (BX10_thirds_34 r4 l1 l2 l3 1 S) else (BX10_thirds_34 r4 l1 l2 l3 0 S)))
set_option maxHeartbeats 4000000 in
set_option maxRecDepth 20000 in
theorem sKX10_thirds_4 (C : Cx p s m args meth c cX10_thirds 6 RX10 G) (hr : meth.sig.returnType = some .int) {r4 : Int32 → Int32 → Int32 → St → Option (Int32 × St)} (hr4 : ∀ (l1 : Int32) (l2 : Int32) (l3 : Int32) (S : St) (res : (Int32 × St)) (H : Heap) (locs : List Loc) (ls : Array Slot), Dy G S s H locs → lv_has ls 6 [(0, .ref (gR G 142)), (1, .int l1), (2, .int l2), (3, .int l3)] → r4 l1 l2 l3 S = some res → W p l e (rmL 3 0 0) s m args below meth c H locs 0 0 (MQ below (QI G res.1 res.2) args s 0 0 (Ab G)) (F0 m 4 ls [])) {l1 : Int32} {l2 : Int32} {l3 : Int32} {S : St} {res : (Int32 × St)} {H : Heap} {locs : List Loc} {ls : Array Slot}  (hd : Dy G S s H locs) (hl : lv_has ls 6 [(0, .ref (gR G 142)), (1, .int l1), (2, .int l2), (3, .int l3)]) (h : KX10_thirds_4 r4 l1 l2 l3 S = some res) : W p l e (rmL 3 0 0) s m args below meth c H locs 0 0 (MQ below (QI G res.1 res.2) args s 0 0 (Ab G)) (F0 m 4 ls []) := by
  unfold KX10_thirds_4 at h
  have hx := C.1.1
  have hb := C.1.2.1
  refine lv_iload_n hx hb dX10_thirds_4 rfl (lv_at hl 3 rfl) ?_
  refine lv_aload_n hx hb dX10_thirds_5 rfl (lv_at hl 0 rfl) ?_
  refine gX10_39 C hd (rfl : kd 142 = 10) (q := 145) rfl dX10_thirds_6 (fun y1 => ?_)
  refine lv_iconst (v := 0) hx hb dX10_thirds_9 (by decide) ?_
  refine R_iald C hd y1 h dX10_thirds_10 (fun x2 h => ?_)
  refine lv_icmp_ge (tgt := 122) hx hb dX10_thirds_11 (by decide) (fun c3 => ?_) (fun c3 => ?_)
  · rw [if_pos c3] at h
    refine lv_iload_n hx hb dX10_thirds_122 rfl (lv_at hl 2 rfl) ?_
    exact R_iret C hr hd h dX10_thirds_123
  · rw [if_neg c3] at h
    refine lv_aload_n hx hb dX10_thirds_14 rfl (lv_at hl 0 rfl) ?_
    refine gX10_45 C hd (rfl : kd 142 = 10) (q := 147) rfl dX10_thirds_15 (fun y4 => ?_)
    refine lv_iload_n hx hb dX10_thirds_18 rfl (lv_at hl 3 rfl) ?_
    refine R_iald C hd y4 h dX10_thirds_19 (fun x5 h => ?_)
    refine lv_aload_n hx hb dX10_thirds_20 rfl (lv_at hl 0 rfl) ?_
    refine gX10_45 C hd (rfl : kd 142 = 10) (q := 147) rfl dX10_thirds_21 (fun y6 => ?_)
    refine lv_iload_n hx hb dX10_thirds_24 rfl (lv_at hl 1 rfl) ?_
    refine R_iald C hd y6 h dX10_thirds_25 (fun x7 h => ?_)
    refine lv_icmp_ne (tgt := 33) hx hb dX10_thirds_26 (by decide) (fun c8 => ?_) (fun c8 => ?_)
    · rw [if_neg c8] at h
      refine lv_iconst (v := 0) hx hb dX10_thirds_33 (by decide) ?_
      exact sBX10_thirds_34 C hr hr4  hd (lv_sub hl [0, 1, 2, 3] rfl) h
    · rw [if_pos c8] at h
      refine lv_iconst (v := 1) hx hb dX10_thirds_29 (by decide) ?_
      refine lv_goto (tgt := 34) hx hb dX10_thirds_30 (by decide) ?_
      exact sBX10_thirds_34 C hr hr4  hd (lv_sub hl [0, 1, 2, 3] rfl) h
def LX10_thirds_4 : Nat → Int32 → Int32 → Int32 → St → Option (Int32 × St)
  | 0 => fun _ _ _ _ => none
  | n + 1 => fun l1 l2 l3 S => KX10_thirds_4 (LX10_thirds_4 n) l1 l2 l3 S
theorem sLX10_thirds_4 (C : Cx p s m args meth c cX10_thirds 6 RX10 G) (hr : meth.sig.returnType = some .int) : ∀ (n : Nat) (l1 : Int32) (l2 : Int32) (l3 : Int32) (S : St) (res : (Int32 × St)) (H : Heap) (locs : List Loc) (ls : Array Slot), Dy G S s H locs → lv_has ls 6 [(0, .ref (gR G 142)), (1, .int l1), (2, .int l2), (3, .int l3)] → LX10_thirds_4 n l1 l2 l3 S = some res → W p l e (rmL 3 0 0) s m args below meth c H locs 0 0 (MQ below (QI G res.1 res.2) args s 0 0 (Ab G)) (F0 m 4 ls []) := by
  intro n
  induction n with
  | zero => intro l1 l2 l3 S res H locs ls  hd hl h; cases h
  | succ n ih =>
    intro l1 l2 l3 S res H locs ls  hd hl h
    exact sKX10_thirds_4 C hr ih  hd hl h
def fX10_thirds (a1 : Int32) (S : St) : Option (Int32 × St) :=
  (LX10_thirds_4 FU a1 0 0 S)
set_option maxHeartbeats 4000000 in
set_option maxRecDepth 20000 in
theorem sfX10_thirds (C : Cx p s m args meth c cX10_thirds 6 RX10 G) (hr : meth.sig.returnType = some .int) {a1 : Int32} {S : St} {res : (Int32 × St)} {H : Heap} {locs : List Loc} {ls : Array Slot}  (hd : Dy G S s H locs) (hl : lv_has ls 6 [(0, .ref (gR G 142)), (1, .int a1)]) (h : fX10_thirds a1 S = some res) : W p l e (rmL 3 0 0) s m args below meth c H locs 0 0 (MQ below (QI G res.1 res.2) args s 0 0 (Ab G)) (F0 m 0 ls []) := by
  unfold fX10_thirds at h
  have hx := C.1.1
  have hb := C.1.2.1
  refine lv_iconst (v := 0) hx hb dX10_thirds_0 (by decide) ?_
  refine lv_istore_n (lv' := [(2, .int 0), (0, .ref (gR G 142)), (1, .int a1)]) hx hb dX10_thirds_1 rfl hl (by decide) rfl (fun ls hl => ?_)
  refine lv_iconst (v := 0) hx hb dX10_thirds_2 (by decide) ?_
  refine lv_istore_n (lv' := [(3, .int 0), (2, .int 0), (0, .ref (gR G 142)), (1, .int a1)]) hx hb dX10_thirds_3 rfl hl (by decide) rfl (fun ls hl => ?_)
  exact sLX10_thirds_4 C hr _ a1 0 0 _ _ _ _ _  hd (lv_sub hl [2, 3, 1, 0] rfl) h
set_option maxRecDepth 20000 in
theorem ccX10_thirds (l : Launch) (G : Gt) {a1 : Int32} {S : St} {res : (Int32 × St)}  (h : fX10_thirds a1 S = some res) : Met l yX10_thirds (wm yX10_thirds cX10_thirds 6 (some .int)) (rmL 3 0 0) (PcW G S [.ref (gR G 142), .int a1]) (QI G res.1 res.2) 0 0 (Ab G) := by
  refine Met.ofW (cc := cX10_thirds) (maxL := 6) (ret := (some .int)) (by decide) rfl ?_
  intro p e s m args below meth c s₁ B hml hv
  obtain ⟨rfl, hK, hP⟩ := hv
  have C : Cx p s m _ meth c cX10_thirds 6 RX10 G := ⟨⟨B.exec, B.bytes, hml, findClass_of_methodNamed B.named, fun w hw => atoms_spec (ws := wm yX10_thirds cX10_thirds 6 (some .int)) B.pre w (List.mem_cons_of_mem _ hw)⟩, B.notSynchronized, hK⟩
  have hl := lv_entry ([.ref (gR G 142), .int a1]) (n := 6) (Nat.le_of_ble_eq_true rfl)
  rw [lg_entry_eq]
  generalize (lg_sl ([.ref (gR G 142), .int a1]) ++ List.replicate (6 - (lg_sl ([.ref (gR G 142), .int a1])).length) Slot.unset).toArray = ls at hl ⊢
  exact sfX10_thirds C B.returns  ⟨hP, va_S.rf⟩ hl h
end T32
