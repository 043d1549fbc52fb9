section T33
variable {p : Program} {l : Launch} {e : Env} {s : State} {m : MethodId} {args : Array Value} {below : List Frame} {meth : Method} {c : Code} {G : Gt}
def BX10_field_25  (S : St) : Option (Int32 × St) :=
  bd (fX10_fail 1 S) fun x1 S => ri x1 S
set_option maxHeartbeats 4000000 in
set_option maxRecDepth 20000 in
theorem sBX10_field_25 (C : Cx p s m args meth c cX10_field 6 RX10 G) (hr : meth.sig.returnType = some .int)  {S : St} {res : (Int32 × St)} {H : Heap} {locs : List Loc} {ls : Array Slot}  (hd : Dy G S s H locs) (hl : lv_has ls 6 [(0, .ref (gR G 142))]) (h : BX10_field_25  S = some res) : W p l e (rmL 5 0 0) s m args below meth c H locs 0 0 (MQ below (QI G res.1 res.2) args s 0 0 (Ab G)) (F0 m 25 ls []) := by
  unfold BX10_field_25 at h
  have hx := C.1.1
  have hb := C.1.2.1
  refine lv_aload_n hx hb dX10_field_25 rfl (lv_at hl 0 rfl) ?_
  refine lv_iconst (v := 1) hx hb dX10_field_26 (by decide) ?_
  obtain ⟨x1, S1, hc, h⟩ := bd_some h
  refine R_cVi C hd (ccX10_fail l G  hc) kX10_325 rfl (by decide) (rfl : kd 142 = 10) hl.1 ⟨by decide, by decide⟩ rfl rfl (Nat.le_of_ble_eq_true rfl) dX10_field_27 ⟨Nat.zero_le _, Nat.zero_le _⟩ (fun H locs hd => ?_)
  generalize S1 = S at h hd
  exact R_iret C hr hd h dX10_field_30
def BX10_field_155 (r119 : Int32 → Int32 → Int32 → Int32 → Int32 → St → Option (Int32 × St)) (l1 : Int32) (l2 : Int32) (l3 : Int32) (l5 : Int32) (s0 : Int32) (s1 : Int32) (S : St) : Option (Int32 × St) :=
  vl (s0 ||| s1) fun x1 => vl (l5 + 1) fun x2 => (r119 l1 l2 l3 x1 x2 S)
set_option maxHeartbeats 4000000 in
set_option maxRecDepth 20000 in
theorem sBX10_field_155 (C : Cx p s m args meth c cX10_field 6 RX10 G) (hr : meth.sig.returnType = some .int) {r119 : Int32 → Int32 → Int32 → Int32 → Int32 → St → Option (Int32 × St)} (hr119 : ∀ (l1 : Int32) (l2 : Int32) (l3 : Int32) (l4 : Int32) (l5 : Int32) (S : St) (res : (Int32 × St)) (H : Heap) (locs : List Loc) (ls : Array Slot), Dy G S s H locs → lv_has ls 6 [(0, .ref (gR G 142)), (1, .int l1), (2, .int l2), (3, .int l3), (4, .int l4), (5, .int l5)] → r119 l1 l2 l3 l4 l5 S = some res → W p l e (rmL 5 0 0) s m args below meth c H locs 0 0 (MQ below (QI G res.1 res.2) args s 0 0 (Ab G)) (F0 m 119 ls [])) {l1 : Int32} {l2 : Int32} {l3 : Int32} {l5 : Int32} {s0 : Int32} {s1 : Int32} {S : St} {res : (Int32 × St)} {H : Heap} {locs : List Loc} {ls : Array Slot}  (hd : Dy G S s H locs) (hl : lv_has ls 6 [(0, .ref (gR G 142)), (1, .int l1), (2, .int l2), (3, .int l3), (5, .int l5)]) (h : BX10_field_155 r119 l1 l2 l3 l5 s0 s1 S = some res) : W p l e (rmL 5 0 0) s m args below meth c H locs 0 0 (MQ below (QI G res.1 res.2) args s 0 0 (Ab G)) (F0 m 155 ls [.int s1, .int s0]) := by
  unfold BX10_field_155 at h
  have hx := C.1.1
  have hb := C.1.2.1
  refine lv_ior hx hb dX10_field_155 ?_
  refine R_vl h (fun x1 h => ?_)
  refine lv_istore (lv' := [(4, .int x1), (0, .ref (gR G 142)), (1, .int l1), (2, .int l2), (3, .int l3), (5, .int l5)]) hx hb dX10_field_156 hl (by decide) rfl (fun ls hl => ?_)
  refine R_vi h (fun x2 ex2 h => ?_)
  refine lv_iinc (v := x2) (lv' := [(5, .int x2), (4, .int x1), (0, .ref (gR G 142)), (1, .int l1), (2, .int l2), (3, .int l3)]) hx hb dX10_field_158 hl (k := 5) rfl (by rw [ex2]; rfl) (by decide) rfl (fun ls hl => ?_)
  refine lv_goto (tgt := 119) hx hb dX10_field_161 (by decide) ?_
  exact hr119 l1 l2 l3 x1 x2 _ _ _ _ _  hd (lv_sub hl [2, 3, 4, 5, 1, 0] rfl) h
def KX10_field_119 (r119 : Int32 → Int32 → Int32 → Int32 → Int32 → St → Option (Int32 × St)) (l1 : Int32) (l2 : Int32) (l3 : Int32) (l4 : Int32) (l5 : Int32) (S : St) : Option (Int32 × St) :=
  rd S 145 0 fun x2 => (if x2 ≤ l5 then (if l2 = 3 then ri l3 S else (if l2 = 4 then bd (fX10_thirds l1 S) fun x6 S => ri x6 S else ri l4 S)) else rd S 149 ((8 * l1) + l5) fun x8 => (if x8 ≤ 0 then (BX10_field_155 r119 l1 l2 l3 l5 l4 0 S) else (BX10_field_155 r119 l1 l2 l3 l5 l4 ((1 : Int32) <<< (l5 &&& 31)) S)))
set_option maxHeartbeats 4000000 in
set_option maxRecDepth 20000 in
theorem sKX10_field_119 (C : Cx p s m args meth c cX10_field 6 RX10 G) (hr : meth.sig.returnType = some .int) {r119 : Int32 → Int32 → Int32 → Int32 → Int32 → St → Option (Int32 × St)} (hr119 : ∀ (l1 : Int32) (l2 : Int32) (l3 : Int32) (l4 : Int32) (l5 : Int32) (S : St) (res : (Int32 × St)) (H : Heap) (locs : List Loc) (ls : Array Slot), Dy G S s H locs → lv_has ls 6 [(0, .ref (gR G 142)), (1, .int l1), (2, .int l2), (3, .int l3), (4, .int l4), (5, .int l5)] → r119 l1 l2 l3 l4 l5 S = some res → W p l e (rmL 5 0 0) s m args below meth c H locs 0 0 (MQ below (QI G res.1 res.2) args s 0 0 (Ab G)) (F0 m 119 ls [])) {l1 : Int32} {l2 : Int32} {l3 : Int32} {l4 : Int32} {l5 : Int32} {S : St} {res : (Int32 × St)} {H : Heap} {locs : List Loc} {ls : Array Slot}  (hd : Dy G S s H locs) (hl : lv_has ls 6 [(0, .ref (gR G 142)), (1, .int l1), (2, .int l2), (3, .int l3), (4, .int l4), (5, .int l5)]) (h : KX10_field_119 r119 l1 l2 l3 l4 l5 S = some res) : W p l e (rmL 5 0 0) s m args below meth c H locs 0 0 (MQ below (QI G res.1 res.2) args s 0 0 (Ab G)) (F0 m 119 ls []) := by
  unfold KX10_field_119 at h
  have hx := C.1.1
  have hb := C.1.2.1
  refine lv_iload hx hb dX10_field_119 (lv_at hl 5 rfl) ?_
  refine lv_aload_n hx hb dX10_field_121 rfl (lv_at hl 0 rfl) ?_
  refine gX10_39 C hd (rfl : kd 142 = 10) (q := 145) rfl dX10_field_122 (fun y1 => ?_)
  refine lv_iconst (v := 0) hx hb dX10_field_125 (by decide) ?_
  refine R_iald C hd y1 h dX10_field_126 (fun x2 h => ?_)
  refine lv_icmp_ge (tgt := 164) hx hb dX10_field_127 (by decide) (fun c3 => ?_) (fun c3 => ?_)
  · rw [if_pos c3] at h
    refine lv_iload_n hx hb dX10_field_164 rfl (lv_at hl 2 rfl) ?_
    refine lv_iconst (v := 3) hx hb dX10_field_165 (by decide) ?_
    refine lv_icmp_ne (tgt := 173) hx hb dX10_field_166 (by decide) (fun c4 => ?_) (fun c4 => ?_)
    · rw [if_neg c4] at h
      refine lv_iload_n hx hb dX10_field_173 rfl (lv_at hl 2 rfl) ?_
      refine lv_iconst (v := 4) hx hb dX10_field_174 (by decide) ?_
      refine lv_icmp_ne (tgt := 186) hx hb dX10_field_175 (by decide) (fun c5 => ?_) (fun c5 => ?_)
      · rw [if_neg c5] at h
        refine lv_iload hx hb dX10_field_186 (lv_at hl 4 rfl) ?_
        exact R_iret C hr hd h dX10_field_188
      · rw [if_pos c5] at h
        refine lv_aload_n hx hb dX10_field_178 rfl (lv_at hl 0 rfl) ?_
        refine lv_iload_n hx hb dX10_field_179 rfl (lv_at hl 1 rfl) ?_
        obtain ⟨x6, S1, hc, h⟩ := bd_some h
        refine R_cVi C hd (ccX10_thirds l G  hc) kX10_397 rfl (by decide) (rfl : kd 142 = 10) hl.1 ⟨by decide, by decide⟩ rfl rfl (Nat.le_of_ble_eq_true rfl) dX10_field_180 ⟨Nat.zero_le _, Nat.zero_le _⟩ (fun H locs hd => ?_)
        generalize S1 = S at h hd
        refine lv_goto (tgt := 188) hx hb dX10_field_183 (by decide) ?_
        exact R_iret C hr hd h dX10_field_188
    · rw [if_pos c4] at h
      refine lv_iload_n hx hb dX10_field_169 rfl (lv_at hl 3 rfl) ?_
      refine lv_goto (tgt := 188) hx hb dX10_field_170 (by decide) ?_
      exact R_iret C hr hd h dX10_field_188
  · rw [if_neg c3] at h
    refine lv_iload hx hb dX10_field_130 (lv_at hl 4 rfl) ?_
    refine lv_aload_n hx hb dX10_field_132 rfl (lv_at hl 0 rfl) ?_
    refine gX10_50 C hd (rfl : kd 142 = 10) (q := 149) rfl dX10_field_133 (fun y7 => ?_)
    refine lv_bipush (v := 8) hx hb dX10_field_136 (by decide) ?_
    refine lv_iload_n hx hb dX10_field_138 rfl (lv_at hl 1 rfl) ?_
    refine lv_imul hx hb dX10_field_139 ?_
    refine lv_iload hx hb dX10_field_140 (lv_at hl 5 rfl) ?_
    refine lv_iadd hx hb dX10_field_142 ?_
    refine R_iald C hd y7 h dX10_field_143 (fun x8 h => ?_)
    refine lv_if_le (tgt := 154) hx hb dX10_field_144 (by decide) (fun c9 => ?_) (fun c9 => ?_)
    · rw [if_pos c9] at h
      refine lv_iconst (v := 0) hx hb dX10_field_154 (by decide) ?_
      exact sBX10_field_155 C hr hr119  hd (lv_sub hl [0, 1, 2, 3, 5] rfl) h
    · rw [if_neg c9] at h
      refine lv_iconst (v := 1) hx hb dX10_field_147 (by decide) ?_
      refine lv_iload hx hb dX10_field_148 (lv_at hl 5 rfl) ?_
      refine lv_ishl hx hb dX10_field_150 ?_
      refine lv_goto (tgt := 155) hx hb dX10_field_151 (by decide) ?_
      exact sBX10_field_155 C hr hr119  hd (lv_sub hl [0, 1, 2, 3, 5] rfl) h
def LX10_field_119 : Nat → Int32 → Int32 → Int32 → Int32 → Int32 → St → Option (Int32 × St)
  | 0 => fun _ _ _ _ _ _ => none
  | n + 1 => fun l1 l2 l3 l4 l5 S => KX10_field_119 (LX10_field_119 n) l1 l2 l3 l4 l5 S
theorem sLX10_field_119 (C : Cx p s m args meth c cX10_field 6 RX10 G) (hr : meth.sig.returnType = some .int) : ∀ (n : Nat) (l1 : Int32) (l2 : Int32) (l3 : Int32) (l4 : Int32) (l5 : Int32) (S : St) (res : (Int32 × St)) (H : Heap) (locs : List Loc) (ls : Array Slot), Dy G S s H locs → lv_has ls 6 [(0, .ref (gR G 142)), (1, .int l1), (2, .int l2), (3, .int l3), (4, .int l4), (5, .int l5)] → LX10_field_119 n l1 l2 l3 l4 l5 S = some res → W p l e (rmL 5 0 0) s m args below meth c H locs 0 0 (MQ below (QI G res.1 res.2) args s 0 0 (Ab G)) (F0 m 119 ls []) := by
  intro n
  induction n with
  | zero => intro l1 l2 l3 l4 l5 S res H locs ls  hd hl h; cases h
  | succ n ih =>
    intro l1 l2 l3 l4 l5 S res H locs ls  hd hl h
    exact sKX10_field_119 C hr ih  hd hl h
def BX10_field_108 (r78 : Int32 → Int32 → Int32 → Int32 → Int32 → St → Option (Int32 × St)) (l1 : Int32) (l2 : Int32) (l4 : Int32) (l5 : Int32) (s0 : Int32) (s1 : Int32) (S : St) : Option (Int32 × St) :=
  vl (s0 ||| s1) fun x1 => vl (l5 + 1) fun x2 => (r78 l1 l2 x1 l4 x2 S)
set_option maxHeartbeats 4000000 in
set_option maxRecDepth 20000 in
theorem sBX10_field_108 (C : Cx p s m args meth c cX10_field 6 RX10 G) (hr : meth.sig.returnType = some .int) {r78 : Int32 → Int32 → Int32 → Int32 → Int32 → St → Option (Int32 × St)} (hr78 : ∀ (l1 : Int32) (l2 : Int32) (l3 : Int32) (l4 : Int32) (l5 : Int32) (S : St) (res : (Int32 × St)) (H : Heap) (locs : List Loc) (ls : Array Slot), Dy G S s H locs → lv_has ls 6 [(0, .ref (gR G 142)), (1, .int l1), (2, .int l2), (3, .int l3), (4, .int l4), (5, .int l5)] → r78 l1 l2 l3 l4 l5 S = some res → W p l e (rmL 5 0 0) s m args below meth c H locs 0 0 (MQ below (QI G res.1 res.2) args s 0 0 (Ab G)) (F0 m 78 ls [])) {l1 : Int32} {l2 : Int32} {l4 : Int32} {l5 : Int32} {s0 : Int32} {s1 : Int32} {S : St} {res : (Int32 × St)} {H : Heap} {locs : List Loc} {ls : Array Slot}  (hd : Dy G S s H locs) (hl : lv_has ls 6 [(0, .ref (gR G 142)), (1, .int l1), (2, .int l2), (4, .int l4), (5, .int l5)]) (h : BX10_field_108 r78 l1 l2 l4 l5 s0 s1 S = some res) : W p l e (rmL 5 0 0) s m args below meth c H locs 0 0 (MQ below (QI G res.1 res.2) args s 0 0 (Ab G)) (F0 m 108 ls [.int s1, .int s0]) := by
  unfold BX10_field_108 at h
  have hx := C.1.1
  have hb := C.1.2.1
  refine lv_ior hx hb dX10_field_108 ?_
  refine R_vl h (fun x1 h => ?_)
  refine lv_istore_n (lv' := [(3, .int x1), (0, .ref (gR G 142)), (1, .int l1), (2, .int l2), (4, .int l4), (5, .int l5)]) hx hb dX10_field_109 rfl hl (by decide) rfl (fun ls hl => ?_)
  refine R_vi h (fun x2 ex2 h => ?_)
  refine lv_iinc (v := x2) (lv' := [(5, .int x2), (3, .int x1), (0, .ref (gR G 142)), (1, .int l1), (2, .int l2), (4, .int l4)]) hx hb dX10_field_110 hl (k := 5) rfl (by rw [ex2]; rfl) (by decide) rfl (fun ls hl => ?_)
  refine lv_goto (tgt := 78) hx hb dX10_field_113 (by decide) ?_
  exact hr78 l1 l2 x1 l4 x2 _ _ _ _ _  hd (lv_sub hl [2, 3, 4, 1, 5, 0] rfl) h
def KX10_field_78 (r78 : Int32 → Int32 → Int32 → Int32 → Int32 → St → Option (Int32 × St)) (l1 : Int32) (l2 : Int32) (l3 : Int32) (l4 : Int32) (l5 : Int32) (S : St) : Option (Int32 × St) :=
  rd S 145 2 fun x2 => (if x2 ≤ l5 then (LX10_field_119 FU l1 l2 l3 l4 0 S) else bd (fX10_placeOf l5 S) fun x4 S => (if x4 = l1 then (BX10_field_108 r78 l1 l2 l4 l5 l3 ((1 : Int32) <<< (l5 &&& 31)) S) else (BX10_field_108 r78 l1 l2 l4 l5 l3 0 S)))
set_option maxHeartbeats 4000000 in
set_option maxRecDepth 20000 in
theorem sKX10_field_78 (C : Cx p s m args meth c cX10_field 6 RX10 G) (hr : meth.sig.returnType = some .int) {r78 : Int32 → Int32 → Int32 → Int32 → Int32 → St → Option (Int32 × St)} (hr78 : ∀ (l1 : Int32) (l2 : Int32) (l3 : Int32) (l4 : Int32) (l5 : Int32) (S : St) (res : (Int32 × St)) (H : Heap) (locs : List Loc) (ls : Array Slot), Dy G S s H locs → lv_has ls 6 [(0, .ref (gR G 142)), (1, .int l1), (2, .int l2), (3, .int l3), (4, .int l4), (5, .int l5)] → r78 l1 l2 l3 l4 l5 S = some res → W p l e (rmL 5 0 0) s m args below meth c H locs 0 0 (MQ below (QI G res.1 res.2) args s 0 0 (Ab G)) (F0 m 78 ls [])) {l1 : Int32} {l2 : Int32} {l3 : Int32} {l4 : Int32} {l5 : Int32} {S : St} {res : (Int32 × St)} {H : Heap} {locs : List Loc} {ls : Array Slot}  (hd : Dy G S s H locs) (hl : lv_has ls 6 [(0, .ref (gR G 142)), (1, .int l1), (2, .int l2), (3, .int l3), (4, .int l4), (5, .int l5)]) (h : KX10_field_78 r78 l1 l2 l3 l4 l5 S = some res) : W p l e (rmL 5 0 0) s m args below meth c H locs 0 0 (MQ below (QI G res.1 res.2) args s 0 0 (Ab G)) (F0 m 78 ls []) := by
  unfold KX10_field_78 at h
  have hx := C.1.1
  have hb := C.1.2.1
  refine lv_iload hx hb dX10_field_78 (lv_at hl 5 rfl) ?_
  refine lv_aload_n hx hb dX10_field_80 rfl (lv_at hl 0 rfl) ?_
  refine gX10_39 C hd (rfl : kd 142 = 10) (q := 145) rfl dX10_field_81 (fun y1 => ?_)
  refine lv_iconst (v := 2) hx hb dX10_field_84 (by decide) ?_
  refine R_iald C hd y1 h dX10_field_85 (fun x2 h => ?_)
  refine lv_icmp_ge (tgt := 116) hx hb dX10_field_86 (by decide) (fun c3 => ?_) (fun c3 => ?_)
  · rw [if_pos c3] at h
    refine lv_iconst (v := 0) hx hb dX10_field_116 (by decide) ?_
    refine lv_istore (lv' := [(5, .int 0), (0, .ref (gR G 142)), (1, .int l1), (2, .int l2), (3, .int l3), (4, .int l4)]) hx hb dX10_field_117 hl (by decide) rfl (fun ls hl => ?_)
    exact sLX10_field_119 C hr _ l1 l2 l3 l4 0 _ _ _ _ _  hd (lv_sub hl [1, 2, 3, 4, 5, 0] rfl) h
  · rw [if_neg c3] at h
    refine lv_iload_n hx hb dX10_field_89 rfl (lv_at hl 3 rfl) ?_
    refine lv_aload_n hx hb dX10_field_90 rfl (lv_at hl 0 rfl) ?_
    refine lv_iload hx hb dX10_field_91 (lv_at hl 5 rfl) ?_
    obtain ⟨x4, S1, hc, h⟩ := bd_some h
    refine R_cVi C hd (ccX10_placeOf l G  hc) kX10_359 rfl (by decide) (rfl : kd 142 = 10) hl.1 ⟨by decide, by decide⟩ rfl rfl (Nat.le_of_ble_eq_true rfl) dX10_field_93 ⟨Nat.zero_le _, Nat.zero_le _⟩ (fun H locs hd => ?_)
    generalize S1 = S at h hd
    refine lv_iload_n hx hb dX10_field_96 rfl (lv_at hl 1 rfl) ?_
    refine lv_icmp_ne (tgt := 107) hx hb dX10_field_97 (by decide) (fun c5 => ?_) (fun c5 => ?_)
    · rw [if_neg c5] at h
      refine lv_iconst (v := 0) hx hb dX10_field_107 (by decide) ?_
      exact sBX10_field_108 C hr hr78  hd (lv_sub hl [0, 1, 2, 4, 5] rfl) h
    · rw [if_pos c5] at h
      refine lv_iconst (v := 1) hx hb dX10_field_100 (by decide) ?_
      refine lv_iload hx hb dX10_field_101 (lv_at hl 5 rfl) ?_
      refine lv_ishl hx hb dX10_field_103 ?_
      refine lv_goto (tgt := 108) hx hb dX10_field_104 (by decide) ?_
      exact sBX10_field_108 C hr hr78  hd (lv_sub hl [0, 1, 2, 4, 5] rfl) h
def LX10_field_78 : Nat → Int32 → Int32 → Int32 → Int32 → Int32 → St → Option (Int32 × St)
  | 0 => fun _ _ _ _ _ _ => none
  | n + 1 => fun l1 l2 l3 l4 l5 S => KX10_field_78 (LX10_field_78 n) l1 l2 l3 l4 l5 S
theorem sLX10_field_78 (C : Cx p s m args meth c cX10_field 6 RX10 G) (hr : meth.sig.returnType = some .int) : ∀ (n : Nat) (l1 : Int32) (l2 : Int32) (l3 : Int32) (l4 : Int32) (l5 : Int32) (S : St) (res : (Int32 × St)) (H : Heap) (locs : List Loc) (ls : Array Slot), Dy G S s H locs → lv_has ls 6 [(0, .ref (gR G 142)), (1, .int l1), (2, .int l2), (3, .int l3), (4, .int l4), (5, .int l5)] → LX10_field_78 n l1 l2 l3 l4 l5 S = some res → W p l e (rmL 5 0 0) s m args below meth c H locs 0 0 (MQ below (QI G res.1 res.2) args s 0 0 (Ab G)) (F0 m 78 ls []) := by
  intro n
  induction n with
  | zero => intro l1 l2 l3 l4 l5 S res H locs ls  hd hl h; cases h
  | succ n ih =>
    intro l1 l2 l3 l4 l5 S res H locs ls  hd hl h
    exact sKX10_field_78 C hr ih  hd hl h
def fX10_field (a1 : Int32) (a2 : Int32) (S : St) : Option (Int32 × St) :=
  pf S 142 3 0 fun S => bd (fX10_isField a1 S) fun x1 S => (if x1 = 0 then (BX10_field_25  S) else bd (fX10_isIn (a2.toInt64) 0 5 S) fun x3 S => (if x3 = 0 then (BX10_field_25  S) else (if 3 ≤ a2 then (LX10_field_78 FU a1 a2 0 0 0 S) else (if a2 = 0 then rd S 146 a1 fun x13 => ri x13 S else (if a2 = 1 then rd S 147 a1 fun x11 => ri x11 S else rd S 162 a1 fun x9 => ri x9 S)))))
set_option maxHeartbeats 4000000 in
set_option maxRecDepth 20000 in
theorem sfX10_field (C : Cx p s m args meth c cX10_field 6 RX10 G) (hr : meth.sig.returnType = some .int) {a1 : Int32} {a2 : Int32} {S : St} {res : (Int32 × St)} {H : Heap} {locs : List Loc} {ls : Array Slot}  (hd : Dy G S s H locs) (hl : lv_has ls 6 [(0, .ref (gR G 142)), (1, .int a1), (2, .int a2)]) (h : fX10_field a1 a2 S = some res) : W p l e (rmL 5 0 0) s m args below meth c H locs 0 0 (MQ below (QI G res.1 res.2) args s 0 0 (Ab G)) (F0 m 0 ls []) := by
  unfold fX10_field at h
  have hx := C.1.1
  have hb := C.1.2.1
  refine lv_aload_n hx hb dX10_field_0 rfl (lv_at hl 0 rfl) ?_
  refine lv_iconst (v := 0) hx hb dX10_field_1 (by decide) ?_
  refine pX10_167 C hd (rfl : kd 142 = 10) h dX10_field_2 (fun S H locs hd h => ?_)
  refine lv_aload_n hx hb dX10_field_5 rfl (lv_at hl 0 rfl) ?_
  refine lv_iload_n hx hb dX10_field_6 rfl (lv_at hl 1 rfl) ?_
  obtain ⟨x1, S1, hc, h⟩ := bd_some h
  refine R_cVi C hd (ccX10_isField l G  hc) kX10_392 rfl (by decide) (rfl : kd 142 = 10) hl.1 ⟨by decide, by decide⟩ rfl rfl (Nat.le_of_ble_eq_true rfl) dX10_field_7 ⟨Nat.zero_le _, Nat.zero_le _⟩ (fun H locs hd => ?_)
  generalize S1 = S at h hd
  refine lv_if_eq (tgt := 25) hx hb dX10_field_10 (by decide) (fun c2 => ?_) (fun c2 => ?_)
  · rw [if_pos c2] at h
    exact sBX10_field_25 C hr  hd (lv_sub hl [0] rfl) h
  · rw [if_neg c2] at h
    refine lv_iload_n hx hb dX10_field_13 rfl (lv_at hl 2 rfl) ?_
    refine lv_i2l hx hb dX10_field_14 rfl ?_
    refine lv_lconst (v := 0) hx hb dX10_field_15 rfl ?_
    refine lv_ldc2 hx hb C.1.2.2.2.1 (C.1.2.2.2.2 _ kcX10_395) dX10_field_16 ?_
    obtain ⟨x3, S1, hc, h⟩ := bd_some h
    refine R_cSi C hd (ccX10_isIn l G  hc) kX10_170  hl.1 ⟨by decide, by decide⟩ rfl rfl (Nat.le_of_ble_eq_true rfl) dX10_field_19 ⟨Nat.zero_le _, Nat.zero_le _⟩ (fun H locs hd => ?_)
    generalize S1 = S at h hd
    refine lv_if_ne (tgt := 31) hx hb dX10_field_22 (by decide) (fun c4 => ?_) (fun c4 => ?_)
    · rw [if_neg c4] at h
      refine lv_iload_n hx hb dX10_field_31 rfl (lv_at hl 2 rfl) ?_
      refine lv_iconst (v := 3) hx hb dX10_field_32 (by decide) ?_
      refine lv_icmp_ge (tgt := 70) hx hb dX10_field_33 (by decide) (fun c5 => ?_) (fun c5 => ?_)
      · rw [if_pos c5] at h
        refine lv_iconst (v := 0) hx hb dX10_field_70 (by decide) ?_
        refine lv_istore_n (lv' := [(3, .int 0), (0, .ref (gR G 142)), (1, .int a1), (2, .int a2)]) hx hb dX10_field_71 rfl hl (by decide) rfl (fun ls hl => ?_)
        refine lv_iconst (v := 0) hx hb dX10_field_72 (by decide) ?_
        refine lv_istore (lv' := [(4, .int 0), (3, .int 0), (0, .ref (gR G 142)), (1, .int a1), (2, .int a2)]) hx hb dX10_field_73 hl (by decide) rfl (fun ls hl => ?_)
        refine lv_iconst (v := 0) hx hb dX10_field_75 (by decide) ?_
        refine lv_istore (lv' := [(5, .int 0), (4, .int 0), (3, .int 0), (0, .ref (gR G 142)), (1, .int a1), (2, .int a2)]) hx hb dX10_field_76 hl (by decide) rfl (fun ls hl => ?_)
        exact sLX10_field_78 C hr _ a1 a2 0 0 0 _ _ _ _ _  hd (lv_sub hl [3, 4, 5, 2, 1, 0] rfl) h
      · rw [if_neg c5] at h
        refine lv_iload_n hx hb dX10_field_36 rfl (lv_at hl 2 rfl) ?_
        refine lv_if_ne (tgt := 49) hx hb dX10_field_37 (by decide) (fun c6 => ?_) (fun c6 => ?_)
        · rw [if_neg c6] at h
          refine lv_iload_n hx hb dX10_field_49 rfl (lv_at hl 2 rfl) ?_
          refine lv_iconst (v := 1) hx hb dX10_field_50 (by decide) ?_
          refine lv_icmp_ne (tgt := 63) hx hb dX10_field_51 (by decide) (fun c7 => ?_) (fun c7 => ?_)
          · rw [if_neg c7] at h
            refine lv_aload_n hx hb dX10_field_63 rfl (lv_at hl 0 rfl) ?_
            refine gX10_92 C hd (rfl : kd 142 = 10) (q := 162) rfl dX10_field_64 (fun y8 => ?_)
            refine lv_iload_n hx hb dX10_field_67 rfl (lv_at hl 1 rfl) ?_
            refine R_iald C hd y8 h dX10_field_68 (fun x9 h => ?_)
            exact R_iret C hr hd h dX10_field_69
          · rw [if_pos c7] at h
            refine lv_aload_n hx hb dX10_field_54 rfl (lv_at hl 0 rfl) ?_
            refine gX10_45 C hd (rfl : kd 142 = 10) (q := 147) rfl dX10_field_55 (fun y10 => ?_)
            refine lv_iload_n hx hb dX10_field_58 rfl (lv_at hl 1 rfl) ?_
            refine R_iald C hd y10 h dX10_field_59 (fun x11 h => ?_)
            refine lv_goto (tgt := 69) hx hb dX10_field_60 (by decide) ?_
            exact R_iret C hr hd h dX10_field_69
        · rw [if_pos c6] at h
          refine lv_aload_n hx hb dX10_field_40 rfl (lv_at hl 0 rfl) ?_
          refine gX10_43 C hd (rfl : kd 142 = 10) (q := 146) rfl dX10_field_41 (fun y12 => ?_)
          refine lv_iload_n hx hb dX10_field_44 rfl (lv_at hl 1 rfl) ?_
          refine R_iald C hd y12 h dX10_field_45 (fun x13 h => ?_)
          refine lv_goto (tgt := 69) hx hb dX10_field_46 (by decide) ?_
          exact R_iret C hr hd h dX10_field_69
    · rw [if_pos c4] at h
      exact sBX10_field_25 C hr  hd (lv_sub hl [0] rfl) h
set_option maxRecDepth 20000 in
theorem ccX10_field (l : Launch) (G : Gt) {a1 : Int32} {a2 : Int32} {S : St} {res : (Int32 × St)}  (h : fX10_field a1 a2 S = some res) : Met l yX10_field (wm yX10_field cX10_field 6 (some .int)) (rmL 5 0 0) (PcW G S [.ref (gR G 142), .int a1, .int a2]) (QI G res.1 res.2) 0 0 (Ab G) := by
  refine Met.ofW (cc := cX10_field) (maxL := 6) (ret := (some .int)) (by decide) rfl ?_
  intro p e s m args below meth c s₁ B hml hv
  obtain ⟨rfl, hK, hP⟩ := hv
  have C : Cx p s m _ meth c cX10_field 6 RX10 G := ⟨⟨B.exec, B.bytes, hml, findClass_of_methodNamed B.named, fun w hw => atoms_spec (ws := wm yX10_field cX10_field 6 (some .int)) B.pre w (List.mem_cons_of_mem _ hw)⟩, B.notSynchronized, hK⟩
  have hl := lv_entry ([.ref (gR G 142), .int a1, .int a2]) (n := 6) (Nat.le_of_ble_eq_true rfl)
  rw [lg_entry_eq]
  generalize (lg_sl ([.ref (gR G 142), .int a1, .int a2]) ++ List.replicate (6 - (lg_sl ([.ref (gR G 142), .int a1, .int a2])).length) Slot.unset).toArray = ls at hl ⊢
  exact sfX10_field C B.returns  ⟨hP, va_S.rf⟩ hl h
def BX10_note_45  (S : St) : Option (Int32 × St) :=
  bd (fX10_fail 1 S) fun x1 S => ri x1 S
set_option maxHeartbeats 4000000 in
set_option maxRecDepth 20000 in
theorem sBX10_note_45 (C : Cx p s m args meth c cX10_note 3 RX10 G) (hr : meth.sig.returnType = some .int)  {S : St} {res : (Int32 × St)} {H : Heap} {locs : List Loc} {ls : Array Slot}  (hd : Dy G S s H locs) (hl : lv_has ls 3 [(0, .ref (gR G 142))]) (h : BX10_note_45  S = some res) : W p l e (rmL 5 0 0) s m args below meth c H locs 0 0 (MQ below (QI G res.1 res.2) args s 0 0 (Ab G)) (F0 m 45 ls []) := by
  unfold BX10_note_45 at h
  have hx := C.1.1
  have hb := C.1.2.1
  refine lv_aload_n hx hb dX10_note_45 rfl (lv_at hl 0 rfl) ?_
  refine lv_iconst (v := 1) hx hb dX10_note_46 (by decide) ?_
  obtain ⟨x1, S1, hc, h⟩ := bd_some h
  refine R_cVi C hd (ccX10_fail l G  hc) kX10_325 rfl (by decide) (rfl : kd 142 = 10) hl.1 ⟨by decide, by decide⟩ rfl rfl (Nat.le_of_ble_eq_true rfl) dX10_note_47 ⟨Nat.zero_le _, Nat.zero_le _⟩ (fun H locs hd => ?_)
  generalize S1 = S at h hd
  exact R_iret C hr hd h dX10_note_50
def fX10_note (a1 : Int32) (a2 : Int32) (S : St) : Option (Int32 × St) :=
  pf S 142 3 0 fun S => bd (fX10_isField a1 S) fun x1 S => (if x1 = 0 then (BX10_note_45  S) else rd S 147 a1 fun x4 => bd (fX10_isIn (a2.toInt64) 0 ((x4 - 1).toInt64) S) fun x5 S => (if x5 = 0 then (BX10_note_45  S) else rd S 148 ((6 * a1) + a2) fun x8 => ri x8 S))
set_option maxHeartbeats 4000000 in
set_option maxRecDepth 20000 in
theorem sfX10_note (C : Cx p s m args meth c cX10_note 3 RX10 G) (hr : meth.sig.returnType = some .int) {a1 : Int32} {a2 : Int32} {S : St} {res : (Int32 × St)} {H : Heap} {locs : List Loc} {ls : Array Slot}  (hd : Dy G S s H locs) (hl : lv_has ls 3 [(0, .ref (gR G 142)), (1, .int a1), (2, .int a2)]) (h : fX10_note a1 a2 S = some res) : W p l e (rmL 5 0 0) s m args below meth c H locs 0 0 (MQ below (QI G res.1 res.2) args s 0 0 (Ab G)) (F0 m 0 ls []) := by
  unfold fX10_note at h
  have hx := C.1.1
  have hb := C.1.2.1
  refine lv_aload_n hx hb dX10_note_0 rfl (lv_at hl 0 rfl) ?_
  refine lv_iconst (v := 0) hx hb dX10_note_1 (by decide) ?_
  refine pX10_167 C hd (rfl : kd 142 = 10) h dX10_note_2 (fun S H locs hd h => ?_)
  refine lv_aload_n hx hb dX10_note_5 rfl (lv_at hl 0 rfl) ?_
  refine lv_iload_n hx hb dX10_note_6 rfl (lv_at hl 1 rfl) ?_
  obtain ⟨x1, S1, hc, h⟩ := bd_some h
  refine R_cVi C hd (ccX10_isField l G  hc) kX10_392 rfl (by decide) (rfl : kd 142 = 10) hl.1 ⟨by decide, by decide⟩ rfl rfl (Nat.le_of_ble_eq_true rfl) dX10_note_7 ⟨Nat.zero_le _, Nat.zero_le _⟩ (fun H locs hd => ?_)
  generalize S1 = S at h hd
  refine lv_if_eq (tgt := 45) hx hb dX10_note_10 (by decide) (fun c2 => ?_) (fun c2 => ?_)
  · rw [if_pos c2] at h
    exact sBX10_note_45 C hr  hd (lv_sub hl [0] rfl) h
  · rw [if_neg c2] at h
    refine lv_iload_n hx hb dX10_note_13 rfl (lv_at hl 2 rfl) ?_
    refine lv_i2l hx hb dX10_note_14 rfl ?_
    refine lv_lconst (v := 0) hx hb dX10_note_15 rfl ?_
    refine lv_aload_n hx hb dX10_note_16 rfl (lv_at hl 0 rfl) ?_
    refine gX10_45 C hd (rfl : kd 142 = 10) (q := 147) rfl dX10_note_17 (fun y3 => ?_)
    refine lv_iload_n hx hb dX10_note_20 rfl (lv_at hl 1 rfl) ?_
    refine R_iald C hd y3 h dX10_note_21 (fun x4 h => ?_)
    refine lv_iconst (v := 1) hx hb dX10_note_22 (by decide) ?_
    refine lv_isub hx hb dX10_note_23 ?_
    refine lv_i2l hx hb dX10_note_24 rfl ?_
    obtain ⟨x5, S1, hc, h⟩ := bd_some h
    refine R_cSi C hd (ccX10_isIn l G  hc) kX10_170  hl.1 ⟨by decide, by decide⟩ rfl rfl (Nat.le_of_ble_eq_true rfl) dX10_note_25 ⟨Nat.zero_le _, Nat.zero_le _⟩ (fun H locs hd => ?_)
    generalize S1 = S at h hd
    refine lv_if_eq (tgt := 45) hx hb dX10_note_28 (by decide) (fun c6 => ?_) (fun c6 => ?_)
    · rw [if_pos c6] at h
      exact sBX10_note_45 C hr  hd (lv_sub hl [0] rfl) h
    · rw [if_neg c6] at h
      refine lv_aload_n hx hb dX10_note_31 rfl (lv_at hl 0 rfl) ?_
      refine gX10_48 C hd (rfl : kd 142 = 10) (q := 148) rfl dX10_note_32 (fun y7 => ?_)
      refine lv_bipush (v := 6) hx hb dX10_note_35 (by decide) ?_
      refine lv_iload_n hx hb dX10_note_37 rfl (lv_at hl 1 rfl) ?_
      refine lv_imul hx hb dX10_note_38 ?_
      refine lv_iload_n hx hb dX10_note_39 rfl (lv_at hl 2 rfl) ?_
      refine lv_iadd hx hb dX10_note_40 ?_
      refine R_iald C hd y7 h dX10_note_41 (fun x8 h => ?_)
      refine lv_goto (tgt := 50) hx hb dX10_note_42 (by decide) ?_
      exact R_iret C hr hd h dX10_note_50
set_option maxRecDepth 20000 in
theorem ccX10_note (l : Launch) (G : Gt) {a1 : Int32} {a2 : Int32} {S : St} {res : (Int32 × St)}  (h : fX10_note a1 a2 S = some res) : Met l yX10_note (wm yX10_note cX10_note 3 (some .int)) (rmL 5 0 0) (PcW G S [.ref (gR G 142), .int a1, .int a2]) (QI G res.1 res.2) 0 0 (Ab G) := by
  refine Met.ofW (cc := cX10_note) (maxL := 3) (ret := (some .int)) (by decide) rfl ?_
  intro p e s m args below meth c s₁ B hml hv
  obtain ⟨rfl, hK, hP⟩ := hv
  have C : Cx p s m _ meth c cX10_note 3 RX10 G := ⟨⟨B.exec, B.bytes, hml, findClass_of_methodNamed B.named, fun w hw => atoms_spec (ws := wm yX10_note cX10_note 3 (some .int)) B.pre w (List.mem_cons_of_mem _ hw)⟩, B.notSynchronized, hK⟩
  have hl := lv_entry ([.ref (gR G 142), .int a1, .int a2]) (n := 3) (Nat.le_of_ble_eq_true rfl)
  rw [lg_entry_eq]
  generalize (lg_sl ([.ref (gR G 142), .int a1, .int a2]) ++ List.replicate (3 - (lg_sl ([.ref (gR G 142), .int a1, .int a2])).length) Slot.unset).toArray = ls at hl ⊢
  exact sfX10_note C B.returns  ⟨hP, va_S.rf⟩ hl h
def BX10_free_44 (r4 : Int32 → Int32 → Int32 → St → Option (Int32 × St)) (l1 : Int32) (l3 : Int32) (s0 : Int32) (s1 : Int32) (S : St) : Option (Int32 × St) :=
  vl (s0 ||| s1) fun x1 => vl (l3 + 1) fun x2 => (r4 l1 x1 x2 S)
set_option maxHeartbeats 4000000 in
set_option maxRecDepth 20000 in
theorem sBX10_free_44 (C : Cx p s m args meth c cX10_free 4 RX10 G) (hr : meth.sig.returnType = some .int) {r4 : Int32 → Int32 → Int32 → St → Option (Int32 × St)} (hr4 : ∀ (l1 : Int32) (l2 : Int32) (l3 : Int32) (S : St) (res : (Int32 × St)) (H : Heap) (locs : List Loc) (ls : Array Slot), Dy G S s H locs → lv_has ls 4 [(0, .ref (gR G 142)), (1, .int l1), (2, .int l2), (3, .int l3)] → r4 l1 l2 l3 S = some res → W p l e (rmL 5 0 0) s m args below meth c H locs 0 0 (MQ below (QI G res.1 res.2) args s 0 0 (Ab G)) (F0 m 4 ls [])) {l1 : Int32} {l3 : Int32} {s0 : Int32} {s1 : Int32} {S : St} {res : (Int32 × St)} {H : Heap} {locs : List Loc} {ls : Array Slot}  (hd : Dy G S s H locs) (hl : lv_has ls 4 [(0, .ref (gR G 142)), (1, .int l1), (3, .int l3)]) (h : BX10_free_44 r4 l1 l3 s0 s1 S = some res) : W p l e (rmL 5 0 0) s m args below meth c H locs 0 0 (MQ below (QI G res.1 res.2) args s 0 0 (Ab G)) (F0 m 44 ls [.int s1, .int s0]) := by
  unfold BX10_free_44 at h
  have hx := C.1.1
  have hb := C.1.2.1
  refine lv_ior hx hb dX10_free_44 ?_
  refine R_vl h (fun x1 h => ?_)
  refine lv_istore_n (lv' := [(2, .int x1), (0, .ref (gR G 142)), (1, .int l1), (3, .int l3)]) hx hb dX10_free_45 rfl hl (by decide) rfl (fun ls hl => ?_)
  refine R_vi h (fun x2 ex2 h => ?_)
  refine lv_iinc (v := x2) (lv' := [(3, .int x2), (2, .int x1), (0, .ref (gR G 142)), (1, .int l1)]) hx hb dX10_free_46 hl (k := 3) rfl (by rw [ex2]; rfl) (by decide) rfl (fun ls hl => ?_)
  refine lv_goto (tgt := 4) hx hb dX10_free_49 (by decide) ?_
  exact hr4 l1 x1 x2 _ _ _ _ _  hd (lv_sub hl [2, 3, 1, 0] rfl) h
def BX10_free_43 (r4 : Int32 → Int32 → Int32 → St → Option (Int32 × St)) (l1 : Int32) (l3 : Int32) (s0 : Int32) (S : St) : Option (Int32 × St) :=
  (BX10_free_44 r4 l1 l3 s0 0 S)
set_option maxHeartbeats 4000000 in
set_option maxRecDepth 20000 in
theorem sBX10_free_43 (C : Cx p s m args meth c cX10_free 4 RX10 G) (hr : meth.sig.returnType = some .int) {r4 : Int32 → Int32 → Int32 → St → Option (Int32 × St)} (hr4 : ∀ (l1 : Int32) (l2 : Int32) (l3 : Int32) (S : St) (res : (Int32 × St)) (H : Heap) (locs : List Loc) (ls : Array Slot), Dy G S s H locs → lv_has ls 4 [(0, .ref (gR G 142)), (1, .int l1), (2, .int l2), (3, .int l3)] → r4 l1 l2 l3 S = some res → W p l e (rmL 5 0 0) s m args below meth c H locs 0 0 (MQ below (QI G res.1 res.2) args s 0 0 (Ab G)) (F0 m 4 ls [])) {l1 : Int32} {l3 : Int32} {s0 : Int32} {S : St} {res : (Int32 × St)} {H : Heap} {locs : List Loc} {ls : Array Slot}  (hd : Dy G S s H locs) (hl : lv_has ls 4 [(0, .ref (gR G 142)), (1, .int l1), (3, .int l3)]) (h : BX10_free_43 r4 l1 l3 s0 S = some res) : W p l e (rmL 5 0 0) s m args below meth c H locs 0 0 (MQ below (QI G res.1 res.2) args s 0 0 (Ab G)) (F0 m 43 ls [.int s0]) := by
  unfold BX10_free_43 at h
  have hx := C.1.1
  have hb := C.1.2.1
  refine lv_iconst (v := 0) hx hb dX10_free_43 (by decide) ?_
  exact sBX10_free_44 C hr hr4  hd (lv_sub hl [0, 1, 2] rfl) h
def KX10_free_4 (r4 : Int32 → Int32 → Int32 → St → Option (Int32 × St)) (l1 : Int32) (l2 : Int32) (l3 : Int32) (S : St) : Option (Int32 × St) :=
  rd S 145 0 fun x2 => (if x2 ≤ l3 then ri l2 S else rd S 158 l1 fun x5 => bd (fX10_isOf x5 l3 S) fun x6 S => (if x6 = 0 then (BX10_free_43 r4 l1 l3 l2 S) else bd (fX10_isTrespass l1 l3 S) fun x8 S => (if x8 = 0 then (BX10_free_44 r4 l1 l3 l2 ((1 : Int32) <<< (l3 &&& 31)) S) else (BX10_free_43 r4 l1 l3 l2 S))))
set_option maxHeartbeats 4000000 in
set_option maxRecDepth 20000 in
theorem sKX10_free_4 (C : Cx p s m args meth c cX10_free 4 RX10 G) (hr : meth.sig.returnType = some .int) {r4 : Int32 → Int32 → Int32 → St → Option (Int32 × St)} (hr4 : ∀ (l1 : Int32) (l2 : Int32) (l3 : Int32) (S : St) (res : (Int32 × St)) (H : Heap) (locs : List Loc) (ls : Array Slot), Dy G S s H locs → lv_has ls 4 [(0, .ref (gR G 142)), (1, .int l1), (2, .int l2), (3, .int l3)] → r4 l1 l2 l3 S = some res → W p l e (rmL 5 0 0) s m args below meth c H locs 0 0 (MQ below (QI G res.1 res.2) args s 0 0 (Ab G)) (F0 m 4 ls [])) {l1 : Int32} {l2 : Int32} {l3 : Int32} {S : St} {res : (Int32 × St)} {H : Heap} {locs : List Loc} {ls : Array Slot}  (hd : Dy G S s H locs) (hl : lv_has ls 4 [(0, .ref (gR G 142)), (1, .int l1), (2, .int l2), (3, .int l3)]) (h : KX10_free_4 r4 l1 l2 l3 S = some res) : W p l e (rmL 5 0 0) s m args below meth c H locs 0 0 (MQ below (QI G res.1 res.2) args s 0 0 (Ab G)) (F0 m 4 ls []) := by
  unfold KX10_free_4 at h
  have hx := C.1.1
  have hb := C.1.2.1
  refine lv_iload_n hx hb dX10_free_4 rfl (lv_at hl 3 rfl) ?_
  refine lv_aload_n hx hb dX10_free_5 rfl (lv_at hl 0 rfl) ?_
  refine gX10_39 C hd (rfl : kd 142 = 10) (q := 145) rfl dX10_free_6 (fun y1 => ?_)
  refine lv_iconst (v := 0) hx hb dX10_free_9 (by decide) ?_
  refine R_iald C hd y1 h dX10_free_10 (fun x2 h => ?_)
  refine lv_icmp_ge (tgt := 52) hx hb dX10_free_11 (by decide) (fun c3 => ?_) (fun c3 => ?_)
  · rw [if_pos c3] at h
    refine lv_iload_n hx hb dX10_free_52 rfl (lv_at hl 2 rfl) ?_
    exact R_iret C hr hd h dX10_free_53
  · rw [if_neg c3] at h
    refine lv_iload_n hx hb dX10_free_14 rfl (lv_at hl 2 rfl) ?_
    refine lv_aload_n hx hb dX10_free_15 rfl (lv_at hl 0 rfl) ?_
    refine gX10_81 C hd (rfl : kd 142 = 10) (q := 158) rfl dX10_free_16 (fun y4 => ?_)
    refine lv_iload_n hx hb dX10_free_19 rfl (lv_at hl 1 rfl) ?_
    refine R_iald C hd y4 h dX10_free_20 (fun x5 h => ?_)
    refine lv_iload_n hx hb dX10_free_21 rfl (lv_at hl 3 rfl) ?_
    obtain ⟨x6, S1, hc, h⟩ := bd_some h
    refine R_cSi C hd (ccX10_isOf l G  hc) kX10_298  hl.1 ⟨by decide, by decide⟩ rfl rfl (Nat.le_of_ble_eq_true rfl) dX10_free_22 ⟨Nat.zero_le _, Nat.zero_le _⟩ (fun H locs hd => ?_)
    generalize S1 = S at h hd
    refine lv_if_eq (tgt := 43) hx hb dX10_free_25 (by decide) (fun c7 => ?_) (fun c7 => ?_)
    · rw [if_pos c7] at h
      exact sBX10_free_43 C hr hr4  hd (lv_sub hl [0, 1, 3] rfl) h
    · rw [if_neg c7] at h
      refine lv_aload_n hx hb dX10_free_28 rfl (lv_at hl 0 rfl) ?_
      refine lv_iload_n hx hb dX10_free_29 rfl (lv_at hl 1 rfl) ?_
      refine lv_iload_n hx hb dX10_free_30 rfl (lv_at hl 3 rfl) ?_
      obtain ⟨x8, S1, hc, h⟩ := bd_some h
      refine R_cVi C hd (ccX10_isTrespass l G  hc) kX10_377 rfl (by decide) (rfl : kd 142 = 10) hl.1 ⟨by decide, by decide⟩ rfl rfl (Nat.le_of_ble_eq_true rfl) dX10_free_31 ⟨Nat.zero_le _, Nat.zero_le _⟩ (fun H locs hd => ?_)
      generalize S1 = S at h hd
      refine lv_if_ne (tgt := 43) hx hb dX10_free_34 (by decide) (fun c9 => ?_) (fun c9 => ?_)
      · rw [if_neg c9] at h
        exact sBX10_free_43 C hr hr4  hd (lv_sub hl [0, 1, 3] rfl) h
      · rw [if_pos c9] at h
        refine lv_iconst (v := 1) hx hb dX10_free_37 (by decide) ?_
        refine lv_iload_n hx hb dX10_free_38 rfl (lv_at hl 3 rfl) ?_
        refine lv_ishl hx hb dX10_free_39 ?_
        refine lv_goto (tgt := 44) hx hb dX10_free_40 (by decide) ?_
        exact sBX10_free_44 C hr hr4  hd (lv_sub hl [0, 1, 3] rfl) h
def LX10_free_4 : Nat → Int32 → Int32 → Int32 → St → Option (Int32 × St)
  | 0 => fun _ _ _ _ => none
  | n + 1 => fun l1 l2 l3 S => KX10_free_4 (LX10_free_4 n) l1 l2 l3 S
theorem sLX10_free_4 (C : Cx p s m args meth c cX10_free 4 RX10 G) (hr : meth.sig.returnType = some .int) : ∀ (n : Nat) (l1 : Int32) (l2 : Int32) (l3 : Int32) (S : St) (res : (Int32 × St)) (H : Heap) (locs : List Loc) (ls : Array Slot), Dy G S s H locs → lv_has ls 4 [(0, .ref (gR G 142)), (1, .int l1), (2, .int l2), (3, .int l3)] → LX10_free_4 n l1 l2 l3 S = some res → W p l e (rmL 5 0 0) s m args below meth c H locs 0 0 (MQ below (QI G res.1 res.2) args s 0 0 (Ab G)) (F0 m 4 ls []) := by
  intro n
  induction n with
  | zero => intro l1 l2 l3 S res H locs ls  hd hl h; cases h
  | succ n ih =>
    intro l1 l2 l3 S res H locs ls  hd hl h
    exact sKX10_free_4 C hr ih  hd hl h
def fX10_free (a1 : Int32) (S : St) : Option (Int32 × St) :=
  (LX10_free_4 FU a1 0 0 S)
set_option maxHeartbeats 4000000 in
set_option maxRecDepth 20000 in
theorem sfX10_free (C : Cx p s m args meth c cX10_free 4 RX10 G) (hr : meth.sig.returnType = some .int) {a1 : Int32} {S : St} {res : (Int32 × St)} {H : Heap} {locs : List Loc} {ls : Array Slot}  (hd : Dy G S s H locs) (hl : lv_has ls 4 [(0, .ref (gR G 142)), (1, .int a1)]) (h : fX10_free a1 S = some res) : W p l e (rmL 5 0 0) s m args below meth c H locs 0 0 (MQ below (QI G res.1 res.2) args s 0 0 (Ab G)) (F0 m 0 ls []) := by
  unfold fX10_free at h
  have hx := C.1.1
  have hb := C.1.2.1
  refine lv_iconst (v := 0) hx hb dX10_free_0 (by decide) ?_
  refine lv_istore_n (lv' := [(2, .int 0), (0, .ref (gR G 142)), (1, .int a1)]) hx hb dX10_free_1 rfl hl (by decide) rfl (fun ls hl => ?_)
  refine lv_iconst (v := 0) hx hb dX10_free_2 (by decide) ?_
  refine lv_istore_n (lv' := [(3, .int 0), (2, .int 0), (0, .ref (gR G 142)), (1, .int a1)]) hx hb dX10_free_3 rfl hl (by decide) rfl (fun ls hl => ?_)
  exact sLX10_free_4 C hr _ a1 0 0 _ _ _ _ _  hd (lv_sub hl [2, 3, 1, 0] rfl) h
set_option maxRecDepth 20000 in
theorem ccX10_free (l : Launch) (G : Gt) {a1 : Int32} {S : St} {res : (Int32 × St)}  (h : fX10_free a1 S = some res) : Met l yX10_free (wm yX10_free cX10_free 4 (some .int)) (rmL 5 0 0) (PcW G S [.ref (gR G 142), .int a1]) (QI G res.1 res.2) 0 0 (Ab G) := by
  refine Met.ofW (cc := cX10_free) (maxL := 4) (ret := (some .int)) (by decide) rfl ?_
  intro p e s m args below meth c s₁ B hml hv
  obtain ⟨rfl, hK, hP⟩ := hv
  have C : Cx p s m _ meth c cX10_free 4 RX10 G := ⟨⟨B.exec, B.bytes, hml, findClass_of_methodNamed B.named, fun w hw => atoms_spec (ws := wm yX10_free cX10_free 4 (some .int)) B.pre w (List.mem_cons_of_mem _ hw)⟩, B.notSynchronized, hK⟩
  have hl := lv_entry ([.ref (gR G 142), .int a1]) (n := 4) (Nat.le_of_ble_eq_true rfl)
  rw [lg_entry_eq]
  generalize (lg_sl ([.ref (gR G 142), .int a1]) ++ List.replicate (4 - (lg_sl ([.ref (gR G 142), .int a1])).length) Slot.unset).toArray = ls at hl ⊢
  exact sfX10_free C B.returns  ⟨hP, va_S.rf⟩ hl h
def fX10_singer (a1 : Int32) (a2 : Int32) (S : St) : Option (Int32 × St) :=
  pf S 142 3 0 fun S => bd (fX10_isSinger a1 S) fun x1 S => (if x1 = 0 then bd (fX10_fail 1 S) fun x19 S => ri x19 S else (if a2 = 0 then rd S 151 a1 fun x5 => ri x5 S else (if a2 = 1 then bd (fX10_placeOf a1 S) fun x7 S => ri x7 S else (if a2 = 2 then rd S 158 a1 fun x10 => ri x10 S else (if a2 = 3 then rd S 159 a1 fun x13 => ri x13 S else (if a2 = 4 then bd (fX10_free a1 S) fun x15 S => ri x15 S else (if a2 = 5 then bd (fX10_tuneOf a1 S) fun x17 S => ri x17 S else bd (fX10_fail 1 S) fun x18 S => ri x18 S)))))))
set_option maxHeartbeats 4000000 in
set_option maxRecDepth 20000 in
theorem sfX10_singer (C : Cx p s m args meth c cX10_singer 3 RX10 G) (hr : meth.sig.returnType = some .int) {a1 : Int32} {a2 : Int32} {S : St} {res : (Int32 × St)} {H : Heap} {locs : List Loc} {ls : Array Slot}  (hd : Dy G S s H locs) (hl : lv_has ls 3 [(0, .ref (gR G 142)), (1, .int a1), (2, .int a2)]) (h : fX10_singer a1 a2 S = some res) : W p l e (rmL 6 0 0) s m args below meth c H locs 0 0 (MQ below (QI G res.1 res.2) args s 0 0 (Ab G)) (F0 m 0 ls []) := by
  unfold fX10_singer at h
  have hx := C.1.1
  have hb := C.1.2.1
  refine lv_aload_n hx hb dX10_singer_0 rfl (lv_at hl 0 rfl) ?_
  refine lv_iconst (v := 0) hx hb dX10_singer_1 (by decide) ?_
  refine pX10_167 C hd (rfl : kd 142 = 10) h dX10_singer_2 (fun S H locs hd h => ?_)
  refine lv_aload_n hx hb dX10_singer_5 rfl (lv_at hl 0 rfl) ?_
  refine lv_iload_n hx hb dX10_singer_6 rfl (lv_at hl 1 rfl) ?_
  obtain ⟨x1, S1, hc, h⟩ := bd_some h
  refine R_cVi C hd (ccX10_isSinger l G  hc) kX10_400 rfl (by decide) (rfl : kd 142 = 10) hl.1 ⟨by decide, by decide⟩ rfl rfl (Nat.le_of_ble_eq_true rfl) dX10_singer_7 ⟨Nat.zero_le _, Nat.zero_le _⟩ (fun H locs hd => ?_)
  generalize S1 = S at h hd
  refine lv_if_ne (tgt := 19) hx hb dX10_singer_10 (by decide) (fun c2 => ?_) (fun c2 => ?_)
  · rw [if_neg c2] at h
    refine lv_iload_n hx hb dX10_singer_19 rfl (lv_at hl 2 rfl) ?_
    by_cases c3 : a2 = 0
    · rw [if_pos c3] at h
      refine lv_tableIn (tgt := 60) hx hb dX10_singer_20 (by rw [c3]; decide) (by rw [c3]; decide) (by rw [c3] <;> rfl) (by decide) ?_
      refine lv_aload_n hx hb dX10_singer_60 rfl (lv_at hl 0 rfl) ?_
      refine gX10_56 C hd (rfl : kd 142 = 10) (q := 151) rfl dX10_singer_61 (fun y4 => ?_)
      refine lv_iload_n hx hb dX10_singer_64 rfl (lv_at hl 1 rfl) ?_
      refine R_iald C hd y4 h dX10_singer_65 (fun x5 h => ?_)
      exact R_iret C hr hd h dX10_singer_66
    rw [if_neg c3] at h
    by_cases c6 : a2 = 1
    · rw [if_pos c6] at h
      refine lv_tableIn (tgt := 67) hx hb dX10_singer_20 (by rw [c6]; decide) (by rw [c6]; decide) (by rw [c6] <;> rfl) (by decide) ?_
      refine lv_aload_n hx hb dX10_singer_67 rfl (lv_at hl 0 rfl) ?_
      refine lv_iload_n hx hb dX10_singer_68 rfl (lv_at hl 1 rfl) ?_
      obtain ⟨x7, S1, hc, h⟩ := bd_some h
      refine R_cVi C hd (ccX10_placeOf l G  hc) kX10_359 rfl (by decide) (rfl : kd 142 = 10) hl.1 ⟨by decide, by decide⟩ rfl rfl (Nat.le_of_ble_eq_true rfl) dX10_singer_69 ⟨Nat.zero_le _, Nat.zero_le _⟩ (fun H locs hd => ?_)
      generalize S1 = S at h hd
      exact R_iret C hr hd h dX10_singer_72
    rw [if_neg c6] at h
    by_cases c8 : a2 = 2
    · rw [if_pos c8] at h
      refine lv_tableIn (tgt := 73) hx hb dX10_singer_20 (by rw [c8]; decide) (by rw [c8]; decide) (by rw [c8] <;> rfl) (by decide) ?_
      refine lv_aload_n hx hb dX10_singer_73 rfl (lv_at hl 0 rfl) ?_
      refine gX10_81 C hd (rfl : kd 142 = 10) (q := 158) rfl dX10_singer_74 (fun y9 => ?_)
      refine lv_iload_n hx hb dX10_singer_77 rfl (lv_at hl 1 rfl) ?_
      refine R_iald C hd y9 h dX10_singer_78 (fun x10 h => ?_)
      exact R_iret C hr hd h dX10_singer_79
    rw [if_neg c8] at h
    by_cases c11 : a2 = 3
    · rw [if_pos c11] at h
      refine lv_tableIn (tgt := 80) hx hb dX10_singer_20 (by rw [c11]; decide) (by rw [c11]; decide) (by rw [c11] <;> rfl) (by decide) ?_
      refine lv_aload_n hx hb dX10_singer_80 rfl (lv_at hl 0 rfl) ?_
      refine gX10_83 C hd (rfl : kd 142 = 10) (q := 159) rfl dX10_singer_81 (fun y12 => ?_)
      refine lv_iload_n hx hb dX10_singer_84 rfl (lv_at hl 1 rfl) ?_
      refine R_iald C hd y12 h dX10_singer_85 (fun x13 h => ?_)
      exact R_iret C hr hd h dX10_singer_86
    rw [if_neg c11] at h
    by_cases c14 : a2 = 4
    · rw [if_pos c14] at h
      refine lv_tableIn (tgt := 87) hx hb dX10_singer_20 (by rw [c14]; decide) (by rw [c14]; decide) (by rw [c14] <;> rfl) (by decide) ?_
      refine lv_aload_n hx hb dX10_singer_87 rfl (lv_at hl 0 rfl) ?_
      refine lv_iload_n hx hb dX10_singer_88 rfl (lv_at hl 1 rfl) ?_
      obtain ⟨x15, S1, hc, h⟩ := bd_some h
      refine R_cVi C hd (ccX10_free l G  hc) kX10_403 rfl (by decide) (rfl : kd 142 = 10) hl.1 ⟨by decide, by decide⟩ rfl rfl (Nat.le_of_ble_eq_true rfl) dX10_singer_89 ⟨Nat.zero_le _, Nat.zero_le _⟩ (fun H locs hd => ?_)
      generalize S1 = S at h hd
      exact R_iret C hr hd h dX10_singer_92
    rw [if_neg c14] at h
    by_cases c16 : a2 = 5
    · rw [if_pos c16] at h
      refine lv_tableIn (tgt := 93) hx hb dX10_singer_20 (by rw [c16]; decide) (by rw [c16]; decide) (by rw [c16] <;> rfl) (by decide) ?_
      refine lv_aload_n hx hb dX10_singer_93 rfl (lv_at hl 0 rfl) ?_
      refine lv_iload_n hx hb dX10_singer_94 rfl (lv_at hl 1 rfl) ?_
      obtain ⟨x17, S1, hc, h⟩ := bd_some h
      refine R_cVi C hd (ccX10_tuneOf l G  hc) kX10_372 rfl (by decide) (rfl : kd 142 = 10) hl.1 ⟨by decide, by decide⟩ rfl rfl (Nat.le_of_ble_eq_true rfl) dX10_singer_95 ⟨Nat.zero_le _, Nat.zero_le _⟩ (fun H locs hd => ?_)
      generalize S1 = S at h hd
      exact R_iret C hr hd h dX10_singer_98
    rw [if_neg c16] at h
    refine R_tab (tgt := 99) C dX10_singer_20 (by decide) [0, 1, 2, 3, 4, 5] (by decide) ?_ ?_
    · intro z hz; simp only [List.mem_cons, List.not_mem_nil, or_false] at hz; rcases hz with rfl | rfl | rfl | rfl | rfl | rfl <;> assumption
    refine lv_aload_n hx hb dX10_singer_99 rfl (lv_at hl 0 rfl) ?_
    refine lv_iconst (v := 1) hx hb dX10_singer_100 (by decide) ?_
    obtain ⟨x18, S1, hc, h⟩ := bd_some h
    refine R_cVi C hd (ccX10_fail l G  hc) kX10_325 rfl (by decide) (rfl : kd 142 = 10) hl.1 ⟨by decide, by decide⟩ rfl rfl (Nat.le_of_ble_eq_true rfl) dX10_singer_101 ⟨Nat.zero_le _, Nat.zero_le _⟩ (fun H locs hd => ?_)
    generalize S1 = S at h hd
    exact R_iret C hr hd h dX10_singer_104
  · rw [if_pos c2] at h
    refine lv_aload_n hx hb dX10_singer_13 rfl (lv_at hl 0 rfl) ?_
    refine lv_iconst (v := 1) hx hb dX10_singer_14 (by decide) ?_
    obtain ⟨x19, S1, hc, h⟩ := bd_some h
    refine R_cVi C hd (ccX10_fail l G  hc) kX10_325 rfl (by decide) (rfl : kd 142 = 10) hl.1 ⟨by decide, by decide⟩ rfl rfl (Nat.le_of_ble_eq_true rfl) dX10_singer_15 ⟨Nat.zero_le _, Nat.zero_le _⟩ (fun H locs hd => ?_)
    generalize S1 = S at h hd
    exact R_iret C hr hd h dX10_singer_18
set_option maxRecDepth 20000 in
theorem ccX10_singer (l : Launch) (G : Gt) {a1 : Int32} {a2 : Int32} {S : St} {res : (Int32 × St)}  (h : fX10_singer a1 a2 S = some res) : Met l yX10_singer (wm yX10_singer cX10_singer 3 (some .int)) (rmL 6 0 0) (PcW G S [.ref (gR G 142), .int a1, .int a2]) (QI G res.1 res.2) 0 0 (Ab G) := by
  refine Met.ofW (cc := cX10_singer) (maxL := 3) (ret := (some .int)) (by decide) rfl ?_
  intro p e s m args below meth c s₁ B hml hv
  obtain ⟨rfl, hK, hP⟩ := hv
  have C : Cx p s m _ meth c cX10_singer 3 RX10 G := ⟨⟨B.exec, B.bytes, hml, findClass_of_methodNamed B.named, fun w hw => atoms_spec (ws := wm yX10_singer cX10_singer 3 (some .int)) B.pre w (List.mem_cons_of_mem _ hw)⟩, B.notSynchronized, hK⟩
  have hl := lv_entry ([.ref (gR G 142), .int a1, .int a2]) (n := 3) (Nat.le_of_ble_eq_true rfl)
  rw [lg_entry_eq]
  generalize (lg_sl ([.ref (gR G 142), .int a1, .int a2]) ++ List.replicate (3 - (lg_sl ([.ref (gR G 142), .int a1, .int a2])).length) Slot.unset).toArray = ls at hl ⊢
  exact sfX10_singer C B.returns  ⟨hP, va_S.rf⟩ hl h
def BX10_way_45  (S : St) : Option (Int32 × St) :=
  bd (fX10_fail 1 S) fun x1 S => ri x1 S
set_option maxHeartbeats 4000000 in
set_option maxRecDepth 20000 in
theorem sBX10_way_45 (C : Cx p s m args meth c cX10_way 3 RX10 G) (hr : meth.sig.returnType = some .int)  {S : St} {res : (Int32 × St)} {H : Heap} {locs : List Loc} {ls : Array Slot}  (hd : Dy G S s H locs) (hl : lv_has ls 3 [(0, .ref (gR G 142))]) (h : BX10_way_45  S = some res) : W p l e (rmL 5 0 0) s m args below meth c H locs 0 0 (MQ below (QI G res.1 res.2) args s 0 0 (Ab G)) (F0 m 45 ls []) := by
  unfold BX10_way_45 at h
  have hx := C.1.1
  have hb := C.1.2.1
  refine lv_aload_n hx hb dX10_way_45 rfl (lv_at hl 0 rfl) ?_
  refine lv_iconst (v := 1) hx hb dX10_way_46 (by decide) ?_
  obtain ⟨x1, S1, hc, h⟩ := bd_some h
  refine R_cVi C hd (ccX10_fail l G  hc) kX10_325 rfl (by decide) (rfl : kd 142 = 10) hl.1 ⟨by decide, by decide⟩ rfl rfl (Nat.le_of_ble_eq_true rfl) dX10_way_47 ⟨Nat.zero_le _, Nat.zero_le _⟩ (fun H locs hd => ?_)
  generalize S1 = S at h hd
  exact R_iret C hr hd h dX10_way_50
def fX10_way (a1 : Int32) (a2 : Int32) (S : St) : Option (Int32 × St) :=
  pf S 142 3 0 fun S => bd (fX10_isSinger a1 S) fun x1 S => (if x1 = 0 then (BX10_way_45  S) else rd S 151 a1 fun x4 => bd (fX10_isIn (a2.toInt64) 0 ((x4 - 1).toInt64) S) fun x5 S => (if x5 = 0 then (BX10_way_45  S) else rd S 161 ((6 * a1) + a2) fun x8 => ri x8 S))
set_option maxHeartbeats 4000000 in
set_option maxRecDepth 20000 in
theorem sfX10_way (C : Cx p s m args meth c cX10_way 3 RX10 G) (hr : meth.sig.returnType = some .int) {a1 : Int32} {a2 : Int32} {S : St} {res : (Int32 × St)} {H : Heap} {locs : List Loc} {ls : Array Slot}  (hd : Dy G S s H locs) (hl : lv_has ls 3 [(0, .ref (gR G 142)), (1, .int a1), (2, .int a2)]) (h : fX10_way a1 a2 S = some res) : W p l e (rmL 5 0 0) s m args below meth c H locs 0 0 (MQ below (QI G res.1 res.2) args s 0 0 (Ab G)) (F0 m 0 ls []) := by
  unfold fX10_way at h
  have hx := C.1.1
  have hb := C.1.2.1
  refine lv_aload_n hx hb dX10_way_0 rfl (lv_at hl 0 rfl) ?_
  refine lv_iconst (v := 0) hx hb dX10_way_1 (by decide) ?_
  refine pX10_167 C hd (rfl : kd 142 = 10) h dX10_way_2 (fun S H locs hd h => ?_)
  refine lv_aload_n hx hb dX10_way_5 rfl (lv_at hl 0 rfl) ?_
  refine lv_iload_n hx hb dX10_way_6 rfl (lv_at hl 1 rfl) ?_
  obtain ⟨x1, S1, hc, h⟩ := bd_some h
  refine R_cVi C hd (ccX10_isSinger l G  hc) kX10_400 rfl (by decide) (rfl : kd 142 = 10) hl.1 ⟨by decide, by decide⟩ rfl rfl (Nat.le_of_ble_eq_true rfl) dX10_way_7 ⟨Nat.zero_le _, Nat.zero_le _⟩ (fun H locs hd => ?_)
  generalize S1 = S at h hd
  refine lv_if_eq (tgt := 45) hx hb dX10_way_10 (by decide) (fun c2 => ?_) (fun c2 => ?_)
  · rw [if_pos c2] at h
    exact sBX10_way_45 C hr  hd (lv_sub hl [0] rfl) h
  · rw [if_neg c2] at h
    refine lv_iload_n hx hb dX10_way_13 rfl (lv_at hl 2 rfl) ?_
    refine lv_i2l hx hb dX10_way_14 rfl ?_
    refine lv_lconst (v := 0) hx hb dX10_way_15 rfl ?_
    refine lv_aload_n hx hb dX10_way_16 rfl (lv_at hl 0 rfl) ?_
    refine gX10_56 C hd (rfl : kd 142 = 10) (q := 151) rfl dX10_way_17 (fun y3 => ?_)
    refine lv_iload_n hx hb dX10_way_20 rfl (lv_at hl 1 rfl) ?_
    refine R_iald C hd y3 h dX10_way_21 (fun x4 h => ?_)
    refine lv_iconst (v := 1) hx hb dX10_way_22 (by decide) ?_
    refine lv_isub hx hb dX10_way_23 ?_
    refine lv_i2l hx hb dX10_way_24 rfl ?_
    obtain ⟨x5, S1, hc, h⟩ := bd_some h
    refine R_cSi C hd (ccX10_isIn l G  hc) kX10_170  hl.1 ⟨by decide, by decide⟩ rfl rfl (Nat.le_of_ble_eq_true rfl) dX10_way_25 ⟨Nat.zero_le _, Nat.zero_le _⟩ (fun H locs hd => ?_)
    generalize S1 = S at h hd
    refine lv_if_eq (tgt := 45) hx hb dX10_way_28 (by decide) (fun c6 => ?_) (fun c6 => ?_)
    · rw [if_pos c6] at h
      exact sBX10_way_45 C hr  hd (lv_sub hl [0] rfl) h
    · rw [if_neg c6] at h
      refine lv_aload_n hx hb dX10_way_31 rfl (lv_at hl 0 rfl) ?_
      refine gX10_89 C hd (rfl : kd 142 = 10) (q := 161) rfl dX10_way_32 (fun y7 => ?_)
      refine lv_bipush (v := 6) hx hb dX10_way_35 (by decide) ?_
      refine lv_iload_n hx hb dX10_way_37 rfl (lv_at hl 1 rfl) ?_
      refine lv_imul hx hb dX10_way_38 ?_
      refine lv_iload_n hx hb dX10_way_39 rfl (lv_at hl 2 rfl) ?_
      refine lv_iadd hx hb dX10_way_40 ?_
      refine R_iald C hd y7 h dX10_way_41 (fun x8 h => ?_)
      refine lv_goto (tgt := 50) hx hb dX10_way_42 (by decide) ?_
      exact R_iret C hr hd h dX10_way_50
set_option maxRecDepth 20000 in
theorem ccX10_way (l : Launch) (G : Gt) {a1 : Int32} {a2 : Int32} {S : St} {res : (Int32 × St)}  (h : fX10_way a1 a2 S = some res) : Met l yX10_way (wm yX10_way cX10_way 3 (some .int)) (rmL 5 0 0) (PcW G S [.ref (gR G 142), .int a1, .int a2]) (QI G res.1 res.2) 0 0 (Ab G) := by
  refine Met.ofW (cc := cX10_way) (maxL := 3) (ret := (some .int)) (by decide) rfl ?_
  intro p e s m args below meth c s₁ B hml hv
  obtain ⟨rfl, hK, hP⟩ := hv
  have C : Cx p s m _ meth c cX10_way 3 RX10 G := ⟨⟨B.exec, B.bytes, hml, findClass_of_methodNamed B.named, fun w hw => atoms_spec (ws := wm yX10_way cX10_way 3 (some .int)) B.pre w (List.mem_cons_of_mem _ hw)⟩, B.notSynchronized, hK⟩
  have hl := lv_entry ([.ref (gR G 142), .int a1, .int a2]) (n := 3) (Nat.le_of_ble_eq_true rfl)
  rw [lg_entry_eq]
  generalize (lg_sl ([.ref (gR G 142), .int a1, .int a2]) ++ List.replicate (3 - (lg_sl ([.ref (gR G 142), .int a1, .int a2])).length) Slot.unset).toArray = ls at hl ⊢
  exact sfX10_way C B.returns  ⟨hP, va_S.rf⟩ hl h
def BX10_earth_35  (S : St) : Option (Int32 × St) :=
  bd (fX10_fail 1 S) fun x1 S => ri x1 S
set_option maxHeartbeats 4000000 in
set_option maxRecDepth 20000 in
theorem sBX10_earth_35 (C : Cx p s m args meth c cX10_earth 3 RX10 G) (hr : meth.sig.returnType = some .int)  {S : St} {res : (Int32 × St)} {H : Heap} {locs : List Loc} {ls : Array Slot}  (hd : Dy G S s H locs) (hl : lv_has ls 3 [(0, .ref (gR G 142))]) (h : BX10_earth_35  S = some res) : W p l e (rmL 5 0 0) s m args below meth c H locs 0 0 (MQ below (QI G res.1 res.2) args s 0 0 (Ab G)) (F0 m 35 ls []) := by
  unfold BX10_earth_35 at h
  have hx := C.1.1
  have hb := C.1.2.1
  refine lv_aload_n hx hb dX10_earth_35 rfl (lv_at hl 0 rfl) ?_
  refine lv_iconst (v := 1) hx hb dX10_earth_36 (by decide) ?_
  obtain ⟨x1, S1, hc, h⟩ := bd_some h
  refine R_cVi C hd (ccX10_fail l G  hc) kX10_325 rfl (by decide) (rfl : kd 142 = 10) hl.1 ⟨by decide, by decide⟩ rfl rfl (Nat.le_of_ble_eq_true rfl) dX10_earth_37 ⟨Nat.zero_le _, Nat.zero_le _⟩ (fun H locs hd => ?_)
  generalize S1 = S at h hd
  exact R_iret C hr hd h dX10_earth_40
def fX10_earth (a1 : Int32) (a2 : Int32) (S : St) : Option (Int32 × St) :=
  pf S 142 3 0 fun S => bd (fX10_isSinger a1 S) fun x1 S => (if x1 = 0 then (BX10_earth_35  S) else bd (fX10_isField a2 S) fun x3 S => (if x3 = 0 then (BX10_earth_35  S) else rd S 160 ((8 * a1) + a2) fun x6 => ri x6 S))
set_option maxHeartbeats 4000000 in
set_option maxRecDepth 20000 in
theorem sfX10_earth (C : Cx p s m args meth c cX10_earth 3 RX10 G) (hr : meth.sig.returnType = some .int) {a1 : Int32} {a2 : Int32} {S : St} {res : (Int32 × St)} {H : Heap} {locs : List Loc} {ls : Array Slot}  (hd : Dy G S s H locs) (hl : lv_has ls 3 [(0, .ref (gR G 142)), (1, .int a1), (2, .int a2)]) (h : fX10_earth a1 a2 S = some res) : W p l e (rmL 5 0 0) s m args below meth c H locs 0 0 (MQ below (QI G res.1 res.2) args s 0 0 (Ab G)) (F0 m 0 ls []) := by
  unfold fX10_earth at h
  have hx := C.1.1
  have hb := C.1.2.1
  refine lv_aload_n hx hb dX10_earth_0 rfl (lv_at hl 0 rfl) ?_
  refine lv_iconst (v := 0) hx hb dX10_earth_1 (by decide) ?_
  refine pX10_167 C hd (rfl : kd 142 = 10) h dX10_earth_2 (fun S H locs hd h => ?_)
  refine lv_aload_n hx hb dX10_earth_5 rfl (lv_at hl 0 rfl) ?_
  refine lv_iload_n hx hb dX10_earth_6 rfl (lv_at hl 1 rfl) ?_
  obtain ⟨x1, S1, hc, h⟩ := bd_some h
  refine R_cVi C hd (ccX10_isSinger l G  hc) kX10_400 rfl (by decide) (rfl : kd 142 = 10) hl.1 ⟨by decide, by decide⟩ rfl rfl (Nat.le_of_ble_eq_true rfl) dX10_earth_7 ⟨Nat.zero_le _, Nat.zero_le _⟩ (fun H locs hd => ?_)
  generalize S1 = S at h hd
  refine lv_if_eq (tgt := 35) hx hb dX10_earth_10 (by decide) (fun c2 => ?_) (fun c2 => ?_)
  · rw [if_pos c2] at h
    exact sBX10_earth_35 C hr  hd (lv_sub hl [0] rfl) h
  · rw [if_neg c2] at h
    refine lv_aload_n hx hb dX10_earth_13 rfl (lv_at hl 0 rfl) ?_
    refine lv_iload_n hx hb dX10_earth_14 rfl (lv_at hl 2 rfl) ?_
    obtain ⟨x3, S1, hc, h⟩ := bd_some h
    refine R_cVi C hd (ccX10_isField l G  hc) kX10_392 rfl (by decide) (rfl : kd 142 = 10) hl.1 ⟨by decide, by decide⟩ rfl rfl (Nat.le_of_ble_eq_true rfl) dX10_earth_15 ⟨Nat.zero_le _, Nat.zero_le _⟩ (fun H locs hd => ?_)
    generalize S1 = S at h hd
    refine lv_if_eq (tgt := 35) hx hb dX10_earth_18 (by decide) (fun c4 => ?_) (fun c4 => ?_)
    · rw [if_pos c4] at h
      exact sBX10_earth_35 C hr  hd (lv_sub hl [0] rfl) h
    · rw [if_neg c4] at h
      refine lv_aload_n hx hb dX10_earth_21 rfl (lv_at hl 0 rfl) ?_
      refine gX10_86 C hd (rfl : kd 142 = 10) (q := 160) rfl dX10_earth_22 (fun y5 => ?_)
      refine lv_bipush (v := 8) hx hb dX10_earth_25 (by decide) ?_
      refine lv_iload_n hx hb dX10_earth_27 rfl (lv_at hl 1 rfl) ?_
      refine lv_imul hx hb dX10_earth_28 ?_
      refine lv_iload_n hx hb dX10_earth_29 rfl (lv_at hl 2 rfl) ?_
      refine lv_iadd hx hb dX10_earth_30 ?_
      refine R_iald C hd y5 h dX10_earth_31 (fun x6 h => ?_)
      refine lv_goto (tgt := 40) hx hb dX10_earth_32 (by decide) ?_
      exact R_iret C hr hd h dX10_earth_40
set_option maxRecDepth 20000 in
theorem ccX10_earth (l : Launch) (G : Gt) {a1 : Int32} {a2 : Int32} {S : St} {res : (Int32 × St)}  (h : fX10_earth a1 a2 S = some res) : Met l yX10_earth (wm yX10_earth cX10_earth 3 (some .int)) (rmL 5 0 0) (PcW G S [.ref (gR G 142), .int a1, .int a2]) (QI G res.1 res.2) 0 0 (Ab G) := by
  refine Met.ofW (cc := cX10_earth) (maxL := 3) (ret := (some .int)) (by decide) rfl ?_
  intro p e s m args below meth c s₁ B hml hv
  obtain ⟨rfl, hK, hP⟩ := hv
  have C : Cx p s m _ meth c cX10_earth 3 RX10 G := ⟨⟨B.exec, B.bytes, hml, findClass_of_methodNamed B.named, fun w hw => atoms_spec (ws := wm yX10_earth cX10_earth 3 (some .int)) B.pre w (List.mem_cons_of_mem _ hw)⟩, B.notSynchronized, hK⟩
  have hl := lv_entry ([.ref (gR G 142), .int a1, .int a2]) (n := 3) (Nat.le_of_ble_eq_true rfl)
  rw [lg_entry_eq]
  generalize (lg_sl ([.ref (gR G 142), .int a1, .int a2]) ++ List.replicate (3 - (lg_sl ([.ref (gR G 142), .int a1, .int a2])).length) Slot.unset).toArray = ls at hl ⊢
  exact sfX10_earth C B.returns  ⟨hP, va_S.rf⟩ hl h
def fX10_refuse (a1 : Int32) (S : St) : Option (Int32 × St) :=
  rd S 156 a1 fun x2 => wr S 156 a1 (x2 + 1) fun S => ri ((-1)) S
set_option maxHeartbeats 4000000 in
set_option maxRecDepth 20000 in
theorem sfX10_refuse (C : Cx p s m args meth c cX10_refuse 2 RX10 G) (hr : meth.sig.returnType = some .int) {a1 : Int32} {S : St} {res : (Int32 × St)} {H : Heap} {locs : List Loc} {ls : Array Slot}  (hd : Dy G S s H locs) (hl : lv_has ls 2 [(0, .ref (gR G 142)), (1, .int a1)]) (h : fX10_refuse a1 S = some res) : W p l e (rmL 3 0 0) s m args below meth c H locs 0 0 (MQ below (QI G res.1 res.2) args s 0 0 (Ab G)) (F0 m 0 ls []) := by
  unfold fX10_refuse at h
  have hx := C.1.1
  have hb := C.1.2.1
  refine lv_aload_n hx hb dX10_refuse_0 rfl (lv_at hl 0 rfl) ?_
  refine gX10_71 C hd (rfl : kd 142 = 10) (q := 156) rfl dX10_refuse_1 (fun y1 => ?_)
  refine lv_iload_n hx hb dX10_refuse_4 rfl (lv_at hl 1 rfl) ?_
  refine lv_dup2_11 hx hb dX10_refuse_5 rfl rfl ?_
  refine R_iald C hd y1 h dX10_refuse_6 (fun x2 h => ?_)
  refine lv_iconst (v := 1) hx hb dX10_refuse_7 (by decide) ?_
  refine lv_iadd hx hb dX10_refuse_8 ?_
  refine R_iast C hd y1 h dX10_refuse_9 (fun S H locs hd h => ?_)
  refine lv_iconst (v := -1) hx hb dX10_refuse_10 (by decide) ?_
  exact R_iret C hr hd h dX10_refuse_11
set_option maxRecDepth 20000 in
theorem ccX10_refuse (l : Launch) (G : Gt) {a1 : Int32} {S : St} {res : (Int32 × St)}  (h : fX10_refuse a1 S = some res) : Met l yX10_refuse (wm yX10_refuse cX10_refuse 2 (some .int)) (rmL 3 0 0) (PcW G S [.ref (gR G 142), .int a1]) (QI G res.1 res.2) 0 0 (Ab G) := by
  refine Met.ofW (cc := cX10_refuse) (maxL := 2) (ret := (some .int)) (by decide) rfl ?_
  intro p e s m args below meth c s₁ B hml hv
  obtain ⟨rfl, hK, hP⟩ := hv
  have C : Cx p s m _ meth c cX10_refuse 2 RX10 G := ⟨⟨B.exec, B.bytes, hml, findClass_of_methodNamed B.named, fun w hw => atoms_spec (ws := wm yX10_refuse cX10_refuse 2 (some .int)) B.pre w (List.mem_cons_of_mem _ hw)⟩, B.notSynchronized, hK⟩
  have hl := lv_entry ([.ref (gR G 142), .int a1]) (n := 2) (Nat.le_of_ble_eq_true rfl)
  rw [lg_entry_eq]
  generalize (lg_sl ([.ref (gR G 142), .int a1]) ++ List.replicate (2 - (lg_sl ([.ref (gR G 142), .int a1])).length) Slot.unset).toArray = ls at hl ⊢
  exact sfX10_refuse C B.returns  ⟨hP, va_S.rf⟩ hl h
def fX10_refuses  (S : St) : Option (Int32 × St) :=
  rd S 156 1 fun x2 => wr S 156 1 (x2 + 1) fun S => rz 0 S
set_option maxHeartbeats 4000000 in
set_option maxRecDepth 20000 in
theorem sfX10_refuses (C : Cx p s m args meth c cX10_refuses 1 RX10 G) (hr : meth.sig.returnType = some .boolean)  {S : St} {res : (Int32 × St)} {H : Heap} {locs : List Loc} {ls : Array Slot}  (hd : Dy G S s H locs) (hl : lv_has ls 1 [(0, .ref (gR G 142))]) (h : fX10_refuses  S = some res) : W p l e (rmL 3 0 0) s m args below meth c H locs 0 0 (MQ below (QI G res.1 res.2) args s 0 0 (Ab G)) (F0 m 0 ls []) := by
  unfold fX10_refuses at h
  have hx := C.1.1
  have hb := C.1.2.1
  refine lv_aload_n hx hb dX10_refuses_0 rfl (lv_at hl 0 rfl) ?_
  refine gX10_71 C hd (rfl : kd 142 = 10) (q := 156) rfl dX10_refuses_1 (fun y1 => ?_)
  refine lv_iconst (v := 1) hx hb dX10_refuses_4 (by decide) ?_
  refine lv_dup2_11 hx hb dX10_refuses_5 rfl rfl ?_
  refine R_iald C hd y1 h dX10_refuses_6 (fun x2 h => ?_)
  refine lv_iconst (v := 1) hx hb dX10_refuses_7 (by decide) ?_
  refine lv_iadd hx hb dX10_refuses_8 ?_
  refine R_iast C hd y1 h dX10_refuses_9 (fun S H locs hd h => ?_)
  refine lv_iconst (v := 0) hx hb dX10_refuses_10 (by decide) ?_
  exact R_zret C hr hd h dX10_refuses_11
set_option maxRecDepth 20000 in
theorem ccX10_refuses (l : Launch) (G : Gt)  {S : St} {res : (Int32 × St)}  (h : fX10_refuses  S = some res) : Met l yX10_refuses (wm yX10_refuses cX10_refuses 1 (some .boolean)) (rmL 3 0 0) (PcW G S [.ref (gR G 142)]) (QI G res.1 res.2) 0 0 (Ab G) := by
  refine Met.ofW (cc := cX10_refuses) (maxL := 1) (ret := (some .boolean)) (by decide) rfl ?_
  intro p e s m args below meth c s₁ B hml hv
  obtain ⟨rfl, hK, hP⟩ := hv
  have C : Cx p s m _ meth c cX10_refuses 1 RX10 G := ⟨⟨B.exec, B.bytes, hml, findClass_of_methodNamed B.named, fun w hw => atoms_spec (ws := wm yX10_refuses cX10_refuses 1 (some .boolean)) B.pre w (List.mem_cons_of_mem _ hw)⟩, B.notSynchronized, hK⟩
  have hl := lv_entry ([.ref (gR G 142)]) (n := 1) (Nat.le_of_ble_eq_true rfl)
  rw [lg_entry_eq]
  generalize (lg_sl ([.ref (gR G 142)]) ++ List.replicate (1 - (lg_sl ([.ref (gR G 142)])).length) Slot.unset).toArray = ls at hl ⊢
  exact sfX10_refuses C B.returns  ⟨hP, va_S.rf⟩ hl h
def BX10_keep_52  (S : St) : Option St :=
  bv (fX10_pack 163 (106 * (S 142 36)) S) fun S => pf S 142 36 ((S 142 36) + 1) fun S => some S
set_option maxHeartbeats 4000000 in
set_option maxRecDepth 20000 in
theorem sBX10_keep_52 (C : Cx p s m args meth c cX10_keep 2 RX10 G) (hr : meth.sig.returnType = none)  {S : St} {res : St} {H : Heap} {locs : List Loc} {ls : Array Slot}  (hd : Dy G S s H locs) (hl : lv_has ls 2 [(0, .ref (gR G 142))]) (h : BX10_keep_52  S = some res) : W p l e (rmL 4 0 0) s m args below meth c H locs 0 0 (MQ below (QV G res) args s 0 0 (Ab G)) (F0 m 52 ls []) := by
  unfold BX10_keep_52 at h
  have hx := C.1.1
  have hb := C.1.2.1
  refine lv_aload_n hx hb dX10_keep_52 rfl (lv_at hl 0 rfl) ?_
  refine lv_aload_n hx hb dX10_keep_53 rfl (lv_at hl 0 rfl) ?_
  refine gX10_95 C hd (rfl : kd 142 = 10) (q := 163) rfl dX10_keep_54 (fun y1 => ?_)
  refine lv_bipush (v := 106) hx hb dX10_keep_57 (by decide) ?_
  refine lv_aload_n hx hb dX10_keep_59 rfl (lv_at hl 0 rfl) ?_
  refine gX10_346 C hd (rfl : kd 142 = 10) dX10_keep_60 ?_
  refine lv_imul hx hb dX10_keep_63 ?_
  obtain ⟨S1, hc, h⟩ := bv_some h
  refine R_cVv C hd (ccX10_pack l G y1 hc) kX10_406 rfl (by decide) (rfl : kd 142 = 10) hl.1 ⟨by decide, by decide⟩ rfl rfl (Nat.le_of_ble_eq_true rfl) dX10_keep_64 ⟨Nat.zero_le _, Nat.zero_le _⟩ (fun H locs hd => ?_)
  generalize S1 = S at h hd
  refine lv_aload_n hx hb dX10_keep_67 rfl (lv_at hl 0 rfl) ?_
  refine lv_dup hx hb dX10_keep_68 rfl ?_
  refine gX10_346 C hd (rfl : kd 142 = 10) dX10_keep_69 ?_
  refine lv_iconst (v := 1) hx hb dX10_keep_72 (by decide) ?_
  refine lv_iadd hx hb dX10_keep_73 ?_
  refine pX10_346 C hd (rfl : kd 142 = 10) h dX10_keep_74 (fun S H locs hd h => ?_)
  exact R_vret C hr hd h dX10_keep_77
def KX10_keep_12 (r12 : Int32 → St → Option St) (l1 : Int32) (S : St) : Option St :=
  (if 4240 ≤ l1 then pf S 142 36 ((S 142 36) - 1) fun S => (BX10_keep_52  S) else rd S 163 l1 fun x5 => wr S 163 (l1 - 106) x5 fun S => vl (l1 + 1) fun x6 => (r12 x6 S))
set_option maxHeartbeats 4000000 in
set_option maxRecDepth 20000 in
theorem sKX10_keep_12 (C : Cx p s m args meth c cX10_keep 2 RX10 G) (hr : meth.sig.returnType = none) {r12 : Int32 → St → Option St} (hr12 : ∀ (l1 : Int32) (S : St) (res : St) (H : Heap) (locs : List Loc) (ls : Array Slot), Dy G S s H locs → lv_has ls 2 [(0, .ref (gR G 142)), (1, .int l1)] → r12 l1 S = some res → W p l e (rmL 4 0 0) s m args below meth c H locs 0 0 (MQ below (QV G res) args s 0 0 (Ab G)) (F0 m 12 ls [])) {l1 : Int32} {S : St} {res : St} {H : Heap} {locs : List Loc} {ls : Array Slot}  (hd : Dy G S s H locs) (hl : lv_has ls 2 [(0, .ref (gR G 142)), (1, .int l1)]) (h : KX10_keep_12 r12 l1 S = some res) : W p l e (rmL 4 0 0) s m args below meth c H locs 0 0 (MQ below (QV G res) args s 0 0 (Ab G)) (F0 m 12 ls []) := by
  unfold KX10_keep_12 at h
  have hx := C.1.1
  have hb := C.1.2.1
  refine lv_iload_n hx hb dX10_keep_12 rfl (lv_at hl 1 rfl) ?_
  refine lv_aload_n hx hb dX10_keep_13 rfl (lv_at hl 0 rfl) ?_
  refine gX10_95 C hd (rfl : kd 142 = 10) (q := 163) rfl dX10_keep_14 (fun y1 => ?_)
  refine R_alen C hd y1 (v := 4240) rfl dX10_keep_17 ?_
  refine lv_icmp_ge (tgt := 42) hx hb dX10_keep_18 (by decide) (fun c2 => ?_) (fun c2 => ?_)
  · rw [if_pos c2] at h
    refine lv_aload_n hx hb dX10_keep_42 rfl (lv_at hl 0 rfl) ?_
    refine lv_dup hx hb dX10_keep_43 rfl ?_
    refine gX10_346 C hd (rfl : kd 142 = 10) dX10_keep_44 ?_
    refine lv_iconst (v := 1) hx hb dX10_keep_47 (by decide) ?_
    refine lv_isub hx hb dX10_keep_48 ?_
    refine pX10_346 C hd (rfl : kd 142 = 10) h dX10_keep_49 (fun S H locs hd h => ?_)
    exact sBX10_keep_52 C hr  hd (lv_sub hl [0] rfl) h
  · rw [if_neg c2] at h
    refine lv_aload_n hx hb dX10_keep_21 rfl (lv_at hl 0 rfl) ?_
    refine gX10_95 C hd (rfl : kd 142 = 10) (q := 163) rfl dX10_keep_22 (fun y3 => ?_)
    refine lv_iload_n hx hb dX10_keep_25 rfl (lv_at hl 1 rfl) ?_
    refine lv_bipush (v := 106) hx hb dX10_keep_26 (by decide) ?_
    refine lv_isub hx hb dX10_keep_28 ?_
    refine lv_aload_n hx hb dX10_keep_29 rfl (lv_at hl 0 rfl) ?_
    refine gX10_95 C hd (rfl : kd 142 = 10) (q := 163) rfl dX10_keep_30 (fun y4 => ?_)
    refine lv_iload_n hx hb dX10_keep_33 rfl (lv_at hl 1 rfl) ?_
    refine R_iald C hd y4 h dX10_keep_34 (fun x5 h => ?_)
    refine R_iast C hd y3 h dX10_keep_35 (fun S H locs hd h => ?_)
    refine R_vi h (fun x6 ex6 h => ?_)
    refine lv_iinc (v := x6) (lv' := [(1, .int x6), (0, .ref (gR G 142))]) hx hb dX10_keep_36 hl (k := 1) rfl (by rw [ex6]; rfl) (by decide) rfl (fun ls hl => ?_)
    refine lv_goto (tgt := 12) hx hb dX10_keep_39 (by decide) ?_
    exact hr12 x6 _ _ _ _ _  hd (lv_sub hl [1, 0] rfl) h
def LX10_keep_12 : Nat → Int32 → St → Option St
  | 0 => fun _ _ => none
  | n + 1 => fun l1 S => KX10_keep_12 (LX10_keep_12 n) l1 S
theorem sLX10_keep_12 (C : Cx p s m args meth c cX10_keep 2 RX10 G) (hr : meth.sig.returnType = none) : ∀ (n : Nat) (l1 : Int32) (S : St) (res : St) (H : Heap) (locs : List Loc) (ls : Array Slot), Dy G S s H locs → lv_has ls 2 [(0, .ref (gR G 142)), (1, .int l1)] → LX10_keep_12 n l1 S = some res → W p l e (rmL 4 0 0) s m args below meth c H locs 0 0 (MQ below (QV G res) args s 0 0 (Ab G)) (F0 m 12 ls []) := by
  intro n
  induction n with
  | zero => intro l1 S res H locs ls  hd hl h; cases h
  | succ n ih =>
    intro l1 S res H locs ls  hd hl h
    exact sKX10_keep_12 C hr ih  hd hl h
def fX10_keep  (S : St) : Option St :=
  (if (S 142 36) = 40 then (LX10_keep_12 FU 106 S) else (BX10_keep_52  S))
set_option maxHeartbeats 4000000 in
set_option maxRecDepth 20000 in
theorem sfX10_keep (C : Cx p s m args meth c cX10_keep 2 RX10 G) (hr : meth.sig.returnType = none)  {S : St} {res : St} {H : Heap} {locs : List Loc} {ls : Array Slot}  (hd : Dy G S s H locs) (hl : lv_has ls 2 [(0, .ref (gR G 142))]) (h : fX10_keep  S = some res) : W p l e (rmL 4 0 0) s m args below meth c H locs 0 0 (MQ below (QV G res) args s 0 0 (Ab G)) (F0 m 0 ls []) := by
  unfold fX10_keep at h
  have hx := C.1.1
  have hb := C.1.2.1
  refine lv_aload_n hx hb dX10_keep_0 rfl (lv_at hl 0 rfl) ?_
  refine gX10_346 C hd (rfl : kd 142 = 10) dX10_keep_1 ?_
  refine lv_bipush (v := 40) hx hb dX10_keep_4 (by decide) ?_
  refine lv_icmp_ne (tgt := 52) hx hb dX10_keep_6 (by decide) (fun c1 => ?_) (fun c1 => ?_)
  · rw [if_neg c1] at h
    exact sBX10_keep_52 C hr  hd (lv_sub hl [0] rfl) h
  · rw [if_pos c1] at h
    refine lv_bipush (v := 106) hx hb dX10_keep_9 (by decide) ?_
    refine lv_istore_n (lv' := [(1, .int 106), (0, .ref (gR G 142))]) hx hb dX10_keep_11 rfl hl (by decide) rfl (fun ls hl => ?_)
    exact sLX10_keep_12 C hr _ 106 _ _ _ _ _  hd (lv_sub hl [1, 0] rfl) h
set_option maxRecDepth 20000 in
theorem ccX10_keep (l : Launch) (G : Gt)  {S : St} {res : St}  (h : fX10_keep  S = some res) : Met l yX10_keep (wm yX10_keep cX10_keep 2 (none)) (rmL 4 0 0) (PcW G S [.ref (gR G 142)]) (QV G res) 0 0 (Ab G) := by
  refine Met.ofW (cc := cX10_keep) (maxL := 2) (ret := none) (by decide) rfl ?_
  intro p e s m args below meth c s₁ B hml hv
  obtain ⟨rfl, hK, hP⟩ := hv
  have C : Cx p s m _ meth c cX10_keep 2 RX10 G := ⟨⟨B.exec, B.bytes, hml, findClass_of_methodNamed B.named, fun w hw => atoms_spec (ws := wm yX10_keep cX10_keep 2 (none)) B.pre w (List.mem_cons_of_mem _ hw)⟩, B.notSynchronized, hK⟩
  have hl := lv_entry ([.ref (gR G 142)]) (n := 2) (Nat.le_of_ble_eq_true rfl)
  rw [lg_entry_eq]
  generalize (lg_sl ([.ref (gR G 142)]) ++ List.replicate (2 - (lg_sl ([.ref (gR G 142)])).length) Slot.unset).toArray = ls at hl ⊢
  exact sfX10_keep C B.returns  ⟨hP, va_S.rf⟩ hl h
def BX10_hours_29  (S : St) : Option (Int32 × St) :=
  bd (fX10_refuse 1 S) fun x1 S => ri x1 S
set_option maxHeartbeats 4000000 in
set_option maxRecDepth 20000 in
theorem sBX10_hours_29 (C : Cx p s m args meth c cX10_hours 2 RX10 G) (hr : meth.sig.returnType = some .int)  {S : St} {res : (Int32 × St)} {H : Heap} {locs : List Loc} {ls : Array Slot}  (hd : Dy G S s H locs) (hl : lv_has ls 2 [(0, .ref (gR G 142))]) (h : BX10_hours_29  S = some res) : W p l e (rmL 9 0 0) s m args below meth c H locs 0 0 (MQ below (QI G res.1 res.2) args s 0 0 (Ab G)) (F0 m 29 ls []) := by
  unfold BX10_hours_29 at h
  have hx := C.1.1
  have hb := C.1.2.1
  refine lv_aload_n hx hb dX10_hours_29 rfl (lv_at hl 0 rfl) ?_
  refine lv_iconst (v := 1) hx hb dX10_hours_30 (by decide) ?_
  obtain ⟨x1, S1, hc, h⟩ := bd_some h
  refine R_cVi C hd (ccX10_refuse l G  hc) kX10_412 rfl (by decide) (rfl : kd 142 = 10) hl.1 ⟨by decide, by decide⟩ rfl rfl (Nat.le_of_ble_eq_true rfl) dX10_hours_31 ⟨Nat.zero_le _, Nat.zero_le _⟩ (fun H locs hd => ?_)
  generalize S1 = S at h hd
  exact R_iret C hr hd h dX10_hours_34
def fX10_hours (a1 : Int32) (S : St) : Option (Int32 × St) :=
  pf S 142 3 0 fun S => bd (fX10_isIn (a1.toInt64) 1 30 S) fun x1 S => (if x1 = 0 then (BX10_hours_29  S) else (if ((S 142 34) + a1) ≤ 9999 then bv (fX10_keep  S) fun S => bv (fX10_goOn a1 S) fun S => ri (S 142 34) S else (BX10_hours_29  S)))
set_option maxHeartbeats 4000000 in
set_option maxRecDepth 20000 in
theorem sfX10_hours (C : Cx p s m args meth c cX10_hours 2 RX10 G) (hr : meth.sig.returnType = some .int) {a1 : Int32} {S : St} {res : (Int32 × St)} {H : Heap} {locs : List Loc} {ls : Array Slot}  (hd : Dy G S s H locs) (hl : lv_has ls 2 [(0, .ref (gR G 142)), (1, .int a1)]) (h : fX10_hours a1 S = some res) : W p l e (rmL 9 0 0) s m args below meth c H locs 0 0 (MQ below (QI G res.1 res.2) args s 0 0 (Ab G)) (F0 m 0 ls []) := by
  unfold fX10_hours at h
  have hx := C.1.1
  have hb := C.1.2.1
  refine lv_aload_n hx hb dX10_hours_0 rfl (lv_at hl 0 rfl) ?_
  refine lv_iconst (v := 0) hx hb dX10_hours_1 (by decide) ?_
  refine pX10_167 C hd (rfl : kd 142 = 10) h dX10_hours_2 (fun S H locs hd h => ?_)
  refine lv_iload_n hx hb dX10_hours_5 rfl (lv_at hl 1 rfl) ?_
  refine lv_i2l hx hb dX10_hours_6 rfl ?_
  refine lv_lconst (v := 1) hx hb dX10_hours_7 rfl ?_
  refine lv_ldc2 hx hb C.1.2.2.2.1 (C.1.2.2.2.2 _ kcX10_410) dX10_hours_8 ?_
  obtain ⟨x1, S1, hc, h⟩ := bd_some h
  refine R_cSi C hd (ccX10_isIn l G  hc) kX10_170  hl.1 ⟨by decide, by decide⟩ rfl rfl (Nat.le_of_ble_eq_true rfl) dX10_hours_11 ⟨Nat.zero_le _, Nat.zero_le _⟩ (fun H locs hd => ?_)
  generalize S1 = S at h hd
  refine lv_if_eq (tgt := 29) hx hb dX10_hours_14 (by decide) (fun c2 => ?_) (fun c2 => ?_)
  · rw [if_pos c2] at h
    exact sBX10_hours_29 C hr  hd (lv_sub hl [0] rfl) h
  · rw [if_neg c2] at h
    refine lv_aload_n hx hb dX10_hours_17 rfl (lv_at hl 0 rfl) ?_
    refine gX10_338 C hd (rfl : kd 142 = 10) dX10_hours_18 ?_
    refine lv_iload_n hx hb dX10_hours_21 rfl (lv_at hl 1 rfl) ?_
    refine lv_iadd hx hb dX10_hours_22 ?_
    refine lv_sipush (v := 9999) hx hb dX10_hours_23 (by decide) ?_
    refine lv_icmp_le (tgt := 35) hx hb dX10_hours_26 (by decide) (fun c3 => ?_) (fun c3 => ?_)
    · rw [if_pos c3] at h
      refine lv_aload_n hx hb dX10_hours_35 rfl (lv_at hl 0 rfl) ?_
      obtain ⟨S1, hc, h⟩ := bv_some h
      refine R_cVv C hd (ccX10_keep l G  hc) kX10_415 rfl (by decide) (rfl : kd 142 = 10) hl.1 ⟨by decide, by decide⟩ rfl rfl (Nat.le_of_ble_eq_true rfl) dX10_hours_36 ⟨Nat.zero_le _, Nat.zero_le _⟩ (fun H locs hd => ?_)
      generalize S1 = S at h hd
      refine lv_aload_n hx hb dX10_hours_39 rfl (lv_at hl 0 rfl) ?_
      refine lv_iload_n hx hb dX10_hours_40 rfl (lv_at hl 1 rfl) ?_
      obtain ⟨S1, hc, h⟩ := bv_some h
      refine R_cVv C hd (ccX10_goOn l G  hc) kX10_418 rfl (by decide) (rfl : kd 142 = 10) hl.1 ⟨by decide, by decide⟩ rfl rfl (Nat.le_of_ble_eq_true rfl) dX10_hours_41 ⟨Nat.zero_le _, Nat.zero_le _⟩ (fun H locs hd => ?_)
      generalize S1 = S at h hd
      refine lv_aload_n hx hb dX10_hours_44 rfl (lv_at hl 0 rfl) ?_
      refine gX10_338 C hd (rfl : kd 142 = 10) dX10_hours_45 ?_
      exact R_iret C hr hd h dX10_hours_48
    · rw [if_neg c3] at h
      exact sBX10_hours_29 C hr  hd (lv_sub hl [0] rfl) h
set_option maxRecDepth 20000 in
theorem ccX10_hours (l : Launch) (G : Gt) {a1 : Int32} {S : St} {res : (Int32 × St)}  (h : fX10_hours a1 S = some res) : Met l yX10_hours (wm yX10_hours cX10_hours 2 (some .int)) (rmL 9 0 0) (PcW G S [.ref (gR G 142), .int a1]) (QI G res.1 res.2) 0 0 (Ab G) := by
  refine Met.ofW (cc := cX10_hours) (maxL := 2) (ret := (some .int)) (by decide) rfl ?_
  intro p e s m args below meth c s₁ B hml hv
  obtain ⟨rfl, hK, hP⟩ := hv
  have C : Cx p s m _ meth c cX10_hours 2 RX10 G := ⟨⟨B.exec, B.bytes, hml, findClass_of_methodNamed B.named, fun w hw => atoms_spec (ws := wm yX10_hours cX10_hours 2 (some .int)) B.pre w (List.mem_cons_of_mem _ hw)⟩, B.notSynchronized, hK⟩
  have hl := lv_entry ([.ref (gR G 142), .int a1]) (n := 2) (Nat.le_of_ble_eq_true rfl)
  rw [lg_entry_eq]
  generalize (lg_sl ([.ref (gR G 142), .int a1]) ++ List.replicate (2 - (lg_sl ([.ref (gR G 142), .int a1])).length) Slot.unset).toArray = ls at hl ⊢
  exact sfX10_hours C B.returns  ⟨hP, va_S.rf⟩ hl h
def BX10_teach_21  (S : St) : Option (Int32 × St) :=
  bd (fX10_failing 1 S) fun x1 S => rz x1 S
set_option maxHeartbeats 4000000 in
set_option maxRecDepth 20000 in
theorem sBX10_teach_21 (C : Cx p s m args meth c cX10_teach 3 RX10 G) (hr : meth.sig.returnType = some .boolean)  {S : St} {res : (Int32 × St)} {H : Heap} {locs : List Loc} {ls : Array Slot}  (hd : Dy G S s H locs) (hl : lv_has ls 3 [(0, .ref (gR G 142))]) (h : BX10_teach_21  S = some res) : W p l e (rmL 5 0 0) s m args below meth c H locs 0 0 (MQ below (QI G res.1 res.2) args s 0 0 (Ab G)) (F0 m 21 ls []) := by
  unfold BX10_teach_21 at h
  have hx := C.1.1
  have hb := C.1.2.1
  refine lv_aload_n hx hb dX10_teach_21 rfl (lv_at hl 0 rfl) ?_
  refine lv_iconst (v := 1) hx hb dX10_teach_22 (by decide) ?_
  obtain ⟨x1, S1, hc, h⟩ := bd_some h
  refine R_cVi C hd (ccX10_failing l G  hc) kX10_421 rfl (by decide) (rfl : kd 142 = 10) hl.1 ⟨by decide, by decide⟩ rfl rfl (Nat.le_of_ble_eq_true rfl) dX10_teach_23 ⟨Nat.zero_le _, Nat.zero_le _⟩ (fun H locs hd => ?_)
  generalize S1 = S at h hd
  exact R_zret C hr hd h dX10_teach_26
def fX10_teach (a1 : Int32) (a2 : Int32) (S : St) : Option (Int32 × St) :=
  pf S 142 3 0 fun S => bd (fX10_isSinger a1 S) fun x1 S => (if x1 = 0 then (BX10_teach_21  S) else bd (fX10_isField a2 S) fun x3 S => (if x3 = 0 then (BX10_teach_21  S) else rd S 158 a1 fun x6 => bd (fX10_isOf x6 a2 S) fun x7 S => (if x7 = 0 then bv (fX10_keep  S) fun S => rd S 158 a1 fun x10 => wr S 158 a1 (x10 ||| ((1 : Int32) <<< (a2 &&& 31))) fun S => rz 1 S else bd (fX10_refuses  S) fun x11 S => rz x11 S)))
set_option maxHeartbeats 4000000 in
set_option maxRecDepth 20000 in
theorem sfX10_teach (C : Cx p s m args meth c cX10_teach 3 RX10 G) (hr : meth.sig.returnType = some .boolean) {a1 : Int32} {a2 : Int32} {S : St} {res : (Int32 × St)} {H : Heap} {locs : List Loc} {ls : Array Slot}  (hd : Dy G S s H locs) (hl : lv_has ls 3 [(0, .ref (gR G 142)), (1, .int a1), (2, .int a2)]) (h : fX10_teach a1 a2 S = some res) : W p l e (rmL 5 0 0) s m args below meth c H locs 0 0 (MQ below (QI G res.1 res.2) args s 0 0 (Ab G)) (F0 m 0 ls []) := by
  unfold fX10_teach at h
  have hx := C.1.1
  have hb := C.1.2.1
  refine lv_aload_n hx hb dX10_teach_0 rfl (lv_at hl 0 rfl) ?_
  refine lv_iconst (v := 0) hx hb dX10_teach_1 (by decide) ?_
  refine pX10_167 C hd (rfl : kd 142 = 10) h dX10_teach_2 (fun S H locs hd h => ?_)
  refine lv_aload_n hx hb dX10_teach_5 rfl (lv_at hl 0 rfl) ?_
  refine lv_iload_n hx hb dX10_teach_6 rfl (lv_at hl 1 rfl) ?_
  obtain ⟨x1, S1, hc, h⟩ := bd_some h
  refine R_cVi C hd (ccX10_isSinger l G  hc) kX10_400 rfl (by decide) (rfl : kd 142 = 10) hl.1 ⟨by decide, by decide⟩ rfl rfl (Nat.le_of_ble_eq_true rfl) dX10_teach_7 ⟨Nat.zero_le _, Nat.zero_le _⟩ (fun H locs hd => ?_)
  generalize S1 = S at h hd
  refine lv_if_eq (tgt := 21) hx hb dX10_teach_10 (by decide) (fun c2 => ?_) (fun c2 => ?_)
  · rw [if_pos c2] at h
    exact sBX10_teach_21 C hr  hd (lv_sub hl [0] rfl) h
  · rw [if_neg c2] at h
    refine lv_aload_n hx hb dX10_teach_13 rfl (lv_at hl 0 rfl) ?_
    refine lv_iload_n hx hb dX10_teach_14 rfl (lv_at hl 2 rfl) ?_
    obtain ⟨x3, S1, hc, h⟩ := bd_some h
    refine R_cVi C hd (ccX10_isField l G  hc) kX10_392 rfl (by decide) (rfl : kd 142 = 10) hl.1 ⟨by decide, by decide⟩ rfl rfl (Nat.le_of_ble_eq_true rfl) dX10_teach_15 ⟨Nat.zero_le _, Nat.zero_le _⟩ (fun H locs hd => ?_)
    generalize S1 = S at h hd
    refine lv_if_ne (tgt := 27) hx hb dX10_teach_18 (by decide) (fun c4 => ?_) (fun c4 => ?_)
    · rw [if_neg c4] at h
      refine lv_aload_n hx hb dX10_teach_27 rfl (lv_at hl 0 rfl) ?_
      refine gX10_81 C hd (rfl : kd 142 = 10) (q := 158) rfl dX10_teach_28 (fun y5 => ?_)
      refine lv_iload_n hx hb dX10_teach_31 rfl (lv_at hl 1 rfl) ?_
      refine R_iald C hd y5 h dX10_teach_32 (fun x6 h => ?_)
      refine lv_iload_n hx hb dX10_teach_33 rfl (lv_at hl 2 rfl) ?_
      obtain ⟨x7, S1, hc, h⟩ := bd_some h
      refine R_cSi C hd (ccX10_isOf l G  hc) kX10_298  hl.1 ⟨by decide, by decide⟩ rfl rfl (Nat.le_of_ble_eq_true rfl) dX10_teach_34 ⟨Nat.zero_le _, Nat.zero_le _⟩ (fun H locs hd => ?_)
      generalize S1 = S at h hd
      refine lv_if_eq (tgt := 45) hx hb dX10_teach_37 (by decide) (fun c8 => ?_) (fun c8 => ?_)
      · rw [if_pos c8] at h
        refine lv_aload_n hx hb dX10_teach_45 rfl (lv_at hl 0 rfl) ?_
        obtain ⟨S1, hc, h⟩ := bv_some h
        refine R_cVv C hd (ccX10_keep l G  hc) kX10_415 rfl (by decide) (rfl : kd 142 = 10) hl.1 ⟨by decide, by decide⟩ rfl rfl (Nat.le_of_ble_eq_true rfl) dX10_teach_46 ⟨Nat.zero_le _, Nat.zero_le _⟩ (fun H locs hd => ?_)
        generalize S1 = S at h hd
        refine lv_aload_n hx hb dX10_teach_49 rfl (lv_at hl 0 rfl) ?_
        refine gX10_81 C hd (rfl : kd 142 = 10) (q := 158) rfl dX10_teach_50 (fun y9 => ?_)
        refine lv_iload_n hx hb dX10_teach_53 rfl (lv_at hl 1 rfl) ?_
        refine lv_dup2_11 hx hb dX10_teach_54 rfl rfl ?_
        refine R_iald C hd y9 h dX10_teach_55 (fun x10 h => ?_)
        refine lv_iconst (v := 1) hx hb dX10_teach_56 (by decide) ?_
        refine lv_iload_n hx hb dX10_teach_57 rfl (lv_at hl 2 rfl) ?_
        refine lv_ishl hx hb dX10_teach_58 ?_
        refine lv_ior hx hb dX10_teach_59 ?_
        refine R_iast C hd y9 h dX10_teach_60 (fun S H locs hd h => ?_)
        refine lv_iconst (v := 1) hx hb dX10_teach_61 (by decide) ?_
        exact R_zret C hr hd h dX10_teach_62
      · rw [if_neg c8] at h
        refine lv_aload_n hx hb dX10_teach_40 rfl (lv_at hl 0 rfl) ?_
        obtain ⟨x11, S1, hc, h⟩ := bd_some h
        refine R_cVi C hd (ccX10_refuses l G  hc) kX10_424 rfl (by decide) (rfl : kd 142 = 10) hl.1 ⟨by decide, by decide⟩ rfl rfl (Nat.le_of_ble_eq_true rfl) dX10_teach_41 ⟨Nat.zero_le _, Nat.zero_le _⟩ (fun H locs hd => ?_)
        generalize S1 = S at h hd
        exact R_zret C hr hd h dX10_teach_44
    · rw [if_pos c4] at h
      exact sBX10_teach_21 C hr  hd (lv_sub hl [0] rfl) h
set_option maxRecDepth 20000 in
theorem ccX10_teach (l : Launch) (G : Gt) {a1 : Int32} {a2 : Int32} {S : St} {res : (Int32 × St)}  (h : fX10_teach a1 a2 S = some res) : Met l yX10_teach (wm yX10_teach cX10_teach 3 (some .boolean)) (rmL 5 0 0) (PcW G S [.ref (gR G 142), .int a1, .int a2]) (QI G res.1 res.2) 0 0 (Ab G) := by
  refine Met.ofW (cc := cX10_teach) (maxL := 3) (ret := (some .boolean)) (by decide) rfl ?_
  intro p e s m args below meth c s₁ B hml hv
  obtain ⟨rfl, hK, hP⟩ := hv
  have C : Cx p s m _ meth c cX10_teach 3 RX10 G := ⟨⟨B.exec, B.bytes, hml, findClass_of_methodNamed B.named, fun w hw => atoms_spec (ws := wm yX10_teach cX10_teach 3 (some .boolean)) B.pre w (List.mem_cons_of_mem _ hw)⟩, B.notSynchronized, hK⟩
  have hl := lv_entry ([.ref (gR G 142), .int a1, .int a2]) (n := 3) (Nat.le_of_ble_eq_true rfl)
  rw [lg_entry_eq]
  generalize (lg_sl ([.ref (gR G 142), .int a1, .int a2]) ++ List.replicate (3 - (lg_sl ([.ref (gR G 142), .int a1, .int a2])).length) Slot.unset).toArray = ls at hl ⊢
  exact sfX10_teach C B.returns  ⟨hP, va_S.rf⟩ hl h
def BX10_load_21  (S : St) : Option (Int32 × St) :=
  bd (fX10_fail 1 S) fun x1 S => ri x1 S
set_option maxHeartbeats 4000000 in
set_option maxRecDepth 20000 in
theorem sBX10_load_21 (C : Cx p s m args meth c cX10_load 4 RX10 G) (hr : meth.sig.returnType = some .int)  {S : St} {res : (Int32 × St)} {H : Heap} {locs : List Loc} {ls : Array Slot}  (hd : Dy G S s H locs) (hl : lv_has ls 4 [(0, .ref (gR G 142))]) (h : BX10_load_21  S = some res) : W p l e (rmL 5 0 0) s m args below meth c H locs 0 0 (MQ below (QI G res.1 res.2) args s 0 0 (Ab G)) (F0 m 21 ls []) := by
  unfold BX10_load_21 at h
  have hx := C.1.1
  have hb := C.1.2.1
  refine lv_aload_n hx hb dX10_load_21 rfl (lv_at hl 0 rfl) ?_
  refine lv_iconst (v := 1) hx hb dX10_load_22 (by decide) ?_
  obtain ⟨x1, S1, hc, h⟩ := bd_some h
  refine R_cVi C hd (ccX10_fail l G  hc) kX10_325 rfl (by decide) (rfl : kd 142 = 10) hl.1 ⟨by decide, by decide⟩ rfl rfl (Nat.le_of_ble_eq_true rfl) dX10_load_23 ⟨Nat.zero_le _, Nat.zero_le _⟩ (fun H locs hd => ?_)
  generalize S1 = S at h hd
  exact R_iret C hr hd h dX10_load_26
def fX10_load (a1 : Int32) (a2 : Int32) (a3 : Int32) (S : St) : Option (Int32 × St) :=
  pf S 142 3 0 fun S => bd (fX10_isSinger a1 S) fun x1 S => (if x1 = 0 then (BX10_load_21  S) else bd (fX10_isField a2 S) fun x3 S => (if x3 = 0 then (BX10_load_21  S) else bd (fX10_isIn (a3.toInt64) 1 9 S) fun x5 S => (if x5 = 0 then bd (fX10_refuse 1 S) fun x13 S => ri x13 S else bv (fX10_keep  S) fun S => rd S 160 ((8 * a1) + a2) fun x9 => vl (if (x9 + a3) < 99 then x9 + a3 else 99) fun x10 => wr S 160 ((8 * a1) + a2) x10 fun S => rd S 160 ((8 * a1) + a2) fun x12 => ri x12 S)))
set_option maxHeartbeats 4000000 in
set_option maxRecDepth 20000 in
theorem sfX10_load (C : Cx p s m args meth c cX10_load 4 RX10 G) (hr : meth.sig.returnType = some .int) {a1 : Int32} {a2 : Int32} {a3 : Int32} {S : St} {res : (Int32 × St)} {H : Heap} {locs : List Loc} {ls : Array Slot}  (hd : Dy G S s H locs) (hl : lv_has ls 4 [(0, .ref (gR G 142)), (1, .int a1), (2, .int a2), (3, .int a3)]) (h : fX10_load a1 a2 a3 S = some res) : W p l e (rmL 5 0 0) s m args below meth c H locs 0 0 (MQ below (QI G res.1 res.2) args s 0 0 (Ab G)) (F0 m 0 ls []) := by
  unfold fX10_load at h
  have hx := C.1.1
  have hb := C.1.2.1
  refine lv_aload_n hx hb dX10_load_0 rfl (lv_at hl 0 rfl) ?_
  refine lv_iconst (v := 0) hx hb dX10_load_1 (by decide) ?_
  refine pX10_167 C hd (rfl : kd 142 = 10) h dX10_load_2 (fun S H locs hd h => ?_)
  refine lv_aload_n hx hb dX10_load_5 rfl (lv_at hl 0 rfl) ?_
  refine lv_iload_n hx hb dX10_load_6 rfl (lv_at hl 1 rfl) ?_
  obtain ⟨x1, S1, hc, h⟩ := bd_some h
  refine R_cVi C hd (ccX10_isSinger l G  hc) kX10_400 rfl (by decide) (rfl : kd 142 = 10) hl.1 ⟨by decide, by decide⟩ rfl rfl (Nat.le_of_ble_eq_true rfl) dX10_load_7 ⟨Nat.zero_le _, Nat.zero_le _⟩ (fun H locs hd => ?_)
  generalize S1 = S at h hd
  refine lv_if_eq (tgt := 21) hx hb dX10_load_10 (by decide) (fun c2 => ?_) (fun c2 => ?_)
  · rw [if_pos c2] at h
    exact sBX10_load_21 C hr  hd (lv_sub hl [0] rfl) h
  · rw [if_neg c2] at h
    refine lv_aload_n hx hb dX10_load_13 rfl (lv_at hl 0 rfl) ?_
    refine lv_iload_n hx hb dX10_load_14 rfl (lv_at hl 2 rfl) ?_
    obtain ⟨x3, S1, hc, h⟩ := bd_some h
    refine R_cVi C hd (ccX10_isField l G  hc) kX10_392 rfl (by decide) (rfl : kd 142 = 10) hl.1 ⟨by decide, by decide⟩ rfl rfl (Nat.le_of_ble_eq_true rfl) dX10_load_15 ⟨Nat.zero_le _, Nat.zero_le _⟩ (fun H locs hd => ?_)
    generalize S1 = S at h hd
    refine lv_if_ne (tgt := 27) hx hb dX10_load_18 (by decide) (fun c4 => ?_) (fun c4 => ?_)
    · rw [if_neg c4] at h
      refine lv_iload_n hx hb dX10_load_27 rfl (lv_at hl 3 rfl) ?_
      refine lv_i2l hx hb dX10_load_28 rfl ?_
      refine lv_lconst (v := 1) hx hb dX10_load_29 rfl ?_
      refine lv_ldc2 hx hb C.1.2.2.2.1 (C.1.2.2.2.2 _ kcX10_428) dX10_load_30 ?_
      obtain ⟨x5, S1, hc, h⟩ := bd_some h
      refine R_cSi C hd (ccX10_isIn l G  hc) kX10_170  hl.1 ⟨by decide, by decide⟩ rfl rfl (Nat.le_of_ble_eq_true rfl) dX10_load_33 ⟨Nat.zero_le _, Nat.zero_le _⟩ (fun H locs hd => ?_)
      generalize S1 = S at h hd
      refine lv_if_ne (tgt := 45) hx hb dX10_load_36 (by decide) (fun c6 => ?_) (fun c6 => ?_)
      · rw [if_neg c6] at h
        refine lv_aload_n hx hb dX10_load_45 rfl (lv_at hl 0 rfl) ?_
        obtain ⟨S1, hc, h⟩ := bv_some h
        refine R_cVv C hd (ccX10_keep l G  hc) kX10_415 rfl (by decide) (rfl : kd 142 = 10) hl.1 ⟨by decide, by decide⟩ rfl rfl (Nat.le_of_ble_eq_true rfl) dX10_load_46 ⟨Nat.zero_le _, Nat.zero_le _⟩ (fun H locs hd => ?_)
        generalize S1 = S at h hd
        refine lv_aload_n hx hb dX10_load_49 rfl (lv_at hl 0 rfl) ?_
        refine gX10_86 C hd (rfl : kd 142 = 10) (q := 160) rfl dX10_load_50 (fun y7 => ?_)
        refine lv_bipush (v := 8) hx hb dX10_load_53 (by decide) ?_
        refine lv_iload_n hx hb dX10_load_55 rfl (lv_at hl 1 rfl) ?_
        refine lv_imul hx hb dX10_load_56 ?_
        refine lv_iload_n hx hb dX10_load_57 rfl (lv_at hl 2 rfl) ?_
        refine lv_iadd hx hb dX10_load_58 ?_
        refine lv_bipush (v := 99) hx hb dX10_load_59 (by decide) ?_
        refine lv_aload_n hx hb dX10_load_61 rfl (lv_at hl 0 rfl) ?_
        refine gX10_86 C hd (rfl : kd 142 = 10) (q := 160) rfl dX10_load_62 (fun y8 => ?_)
        refine lv_bipush (v := 8) hx hb dX10_load_65 (by decide) ?_
        refine lv_iload_n hx hb dX10_load_67 rfl (lv_at hl 1 rfl) ?_
        refine lv_imul hx hb dX10_load_68 ?_
        refine lv_iload_n hx hb dX10_load_69 rfl (lv_at hl 2 rfl) ?_
        refine lv_iadd hx hb dX10_load_70 ?_
        refine R_iald C hd y8 h dX10_load_71 (fun x9 h => ?_)
        refine lv_iload_n hx hb dX10_load_72 rfl (lv_at hl 3 rfl) ?_
        refine lv_iadd hx hb dX10_load_73 ?_
        refine R_mmin C hl.1 kmX10_204 (Nat.le_of_ble_eq_true rfl) (Nat.le_of_ble_eq_true rfl) (Nat.le_of_ble_eq_true rfl) (Nat.le_of_ble_eq_true rfl) dX10_load_74 ?_
        refine R_vl h (fun x10 h => ?_)
        refine R_iast C hd y7 h dX10_load_77 (fun S H locs hd h => ?_)
        refine lv_aload_n hx hb dX10_load_78 rfl (lv_at hl 0 rfl) ?_
        refine gX10_86 C hd (rfl : kd 142 = 10) (q := 160) rfl dX10_load_79 (fun y11 => ?_)
        refine lv_bipush (v := 8) hx hb dX10_load_82 (by decide) ?_
        refine lv_iload_n hx hb dX10_load_84 rfl (lv_at hl 1 rfl) ?_
        refine lv_imul hx hb dX10_load_85 ?_
        refine lv_iload_n hx hb dX10_load_86 rfl (lv_at hl 2 rfl) ?_
        refine lv_iadd hx hb dX10_load_87 ?_
        refine R_iald C hd y11 h dX10_load_88 (fun x12 h => ?_)
        exact R_iret C hr hd h dX10_load_89
      · rw [if_pos c6] at h
        refine lv_aload_n hx hb dX10_load_39 rfl (lv_at hl 0 rfl) ?_
        refine lv_iconst (v := 1) hx hb dX10_load_40 (by decide) ?_
        obtain ⟨x13, S1, hc, h⟩ := bd_some h
        refine R_cVi C hd (ccX10_refuse l G  hc) kX10_412 rfl (by decide) (rfl : kd 142 = 10) hl.1 ⟨by decide, by decide⟩ rfl rfl (Nat.le_of_ble_eq_true rfl) dX10_load_41 ⟨Nat.zero_le _, Nat.zero_le _⟩ (fun H locs hd => ?_)
        generalize S1 = S at h hd
        exact R_iret C hr hd h dX10_load_44
    · rw [if_pos c4] at h
      exact sBX10_load_21 C hr  hd (lv_sub hl [0] rfl) h
set_option maxRecDepth 20000 in
theorem ccX10_load (l : Launch) (G : Gt) {a1 : Int32} {a2 : Int32} {a3 : Int32} {S : St} {res : (Int32 × St)}  (h : fX10_load a1 a2 a3 S = some res) : Met l yX10_load (wm yX10_load cX10_load 4 (some .int)) (rmL 5 0 0) (PcW G S [.ref (gR G 142), .int a1, .int a2, .int a3]) (QI G res.1 res.2) 0 0 (Ab G) := by
  refine Met.ofW (cc := cX10_load) (maxL := 4) (ret := (some .int)) (by decide) rfl ?_
  intro p e s m args below meth c s₁ B hml hv
  obtain ⟨rfl, hK, hP⟩ := hv
  have C : Cx p s m _ meth c cX10_load 4 RX10 G := ⟨⟨B.exec, B.bytes, hml, findClass_of_methodNamed B.named, fun w hw => atoms_spec (ws := wm yX10_load cX10_load 4 (some .int)) B.pre w (List.mem_cons_of_mem _ hw)⟩, B.notSynchronized, hK⟩
  have hl := lv_entry ([.ref (gR G 142), .int a1, .int a2, .int a3]) (n := 4) (Nat.le_of_ble_eq_true rfl)
  rw [lg_entry_eq]
  generalize (lg_sl ([.ref (gR G 142), .int a1, .int a2, .int a3]) ++ List.replicate (4 - (lg_sl ([.ref (gR G 142), .int a1, .int a2, .int a3])).length) Slot.unset).toArray = ls at hl ⊢
  exact sfX10_load C B.returns  ⟨hP, va_S.rf⟩ hl h
def BX10_change_21  (S : St) : Option (Int32 × St) :=
  bd (fX10_fail 1 S) fun x1 S => ri x1 S
set_option maxHeartbeats 4000000 in
set_option maxRecDepth 20000 in
theorem sBX10_change_21 (C : Cx p s m args meth c cX10_change 5 RX10 G) (hr : meth.sig.returnType = some .int)  {S : St} {res : (Int32 × St)} {H : Heap} {locs : List Loc} {ls : Array Slot}  (hd : Dy G S s H locs) (hl : lv_has ls 5 [(0, .ref (gR G 142))]) (h : BX10_change_21  S = some res) : W p l e (rmL 5 0 0) s m args below meth c H locs 0 0 (MQ below (QI G res.1 res.2) args s 0 0 (Ab G)) (F0 m 21 ls []) := by
  unfold BX10_change_21 at h
  have hx := C.1.1
  have hb := C.1.2.1
  refine lv_aload_n hx hb dX10_change_21 rfl (lv_at hl 0 rfl) ?_
  refine lv_iconst (v := 1) hx hb dX10_change_22 (by decide) ?_
  obtain ⟨x1, S1, hc, h⟩ := bd_some h
  refine R_cVi C hd (ccX10_fail l G  hc) kX10_325 rfl (by decide) (rfl : kd 142 = 10) hl.1 ⟨by decide, by decide⟩ rfl rfl (Nat.le_of_ble_eq_true rfl) dX10_change_23 ⟨Nat.zero_le _, Nat.zero_le _⟩ (fun H locs hd => ?_)
  generalize S1 = S at h hd
  exact R_iret C hr hd h dX10_change_26
def fX10_change (a1 : Int32) (a2 : Int32) (a3 : Int32) (S : St) : Option (Int32 × St) :=
  pf S 142 3 0 fun S => bd (fX10_isSinger a1 S) fun x1 S => (if x1 = 0 then (BX10_change_21  S) else bd (fX10_isField a3 S) fun x3 S => (if x3 = 0 then (BX10_change_21  S) else rd S 151 a1 fun x6 => bd (fX10_isIn (a2.toInt64) 0 ((x6 - 1).toInt64) S) fun x7 S => (if x7 = 0 then bd (fX10_refuse 1 S) fun x12 S => ri x12 S else bv (fX10_keep  S) fun S => rd S 161 ((6 * a1) + a2) fun x10 => wr S 161 ((6 * a1) + a2) a3 fun S => ri x10 S)))
set_option maxHeartbeats 4000000 in
set_option maxRecDepth 20000 in
theorem sfX10_change (C : Cx p s m args meth c cX10_change 5 RX10 G) (hr : meth.sig.returnType = some .int) {a1 : Int32} {a2 : Int32} {a3 : Int32} {S : St} {res : (Int32 × St)} {H : Heap} {locs : List Loc} {ls : Array Slot}  (hd : Dy G S s H locs) (hl : lv_has ls 5 [(0, .ref (gR G 142)), (1, .int a1), (2, .int a2), (3, .int a3)]) (h : fX10_change a1 a2 a3 S = some res) : W p l e (rmL 5 0 0) s m args below meth c H locs 0 0 (MQ below (QI G res.1 res.2) args s 0 0 (Ab G)) (F0 m 0 ls []) := by
  unfold fX10_change at h
  have hx := C.1.1
  have hb := C.1.2.1
  refine lv_aload_n hx hb dX10_change_0 rfl (lv_at hl 0 rfl) ?_
  refine lv_iconst (v := 0) hx hb dX10_change_1 (by decide) ?_
  refine pX10_167 C hd (rfl : kd 142 = 10) h dX10_change_2 (fun S H locs hd h => ?_)
  refine lv_aload_n hx hb dX10_change_5 rfl (lv_at hl 0 rfl) ?_
  refine lv_iload_n hx hb dX10_change_6 rfl (lv_at hl 1 rfl) ?_
  obtain ⟨x1, S1, hc, h⟩ := bd_some h
  refine R_cVi C hd (ccX10_isSinger l G  hc) kX10_400 rfl (by decide) (rfl : kd 142 = 10) hl.1 ⟨by decide, by decide⟩ rfl rfl (Nat.le_of_ble_eq_true rfl) dX10_change_7 ⟨Nat.zero_le _, Nat.zero_le _⟩ (fun H locs hd => ?_)
  generalize S1 = S at h hd
  refine lv_if_eq (tgt := 21) hx hb dX10_change_10 (by decide) (fun c2 => ?_) (fun c2 => ?_)
  · rw [if_pos c2] at h
    exact sBX10_change_21 C hr  hd (lv_sub hl [0] rfl) h
  · rw [if_neg c2] at h
    refine lv_aload_n hx hb dX10_change_13 rfl (lv_at hl 0 rfl) ?_
    refine lv_iload_n hx hb dX10_change_14 rfl (lv_at hl 3 rfl) ?_
    obtain ⟨x3, S1, hc, h⟩ := bd_some h
    refine R_cVi C hd (ccX10_isField l G  hc) kX10_392 rfl (by decide) (rfl : kd 142 = 10) hl.1 ⟨by decide, by decide⟩ rfl rfl (Nat.le_of_ble_eq_true rfl) dX10_change_15 ⟨Nat.zero_le _, Nat.zero_le _⟩ (fun H locs hd => ?_)
    generalize S1 = S at h hd
    refine lv_if_ne (tgt := 27) hx hb dX10_change_18 (by decide) (fun c4 => ?_) (fun c4 => ?_)
    · rw [if_neg c4] at h
      refine lv_iload_n hx hb dX10_change_27 rfl (lv_at hl 2 rfl) ?_
      refine lv_i2l hx hb dX10_change_28 rfl ?_
      refine lv_lconst (v := 0) hx hb dX10_change_29 rfl ?_
      refine lv_aload_n hx hb dX10_change_30 rfl (lv_at hl 0 rfl) ?_
      refine gX10_56 C hd (rfl : kd 142 = 10) (q := 151) rfl dX10_change_31 (fun y5 => ?_)
      refine lv_iload_n hx hb dX10_change_34 rfl (lv_at hl 1 rfl) ?_
      refine R_iald C hd y5 h dX10_change_35 (fun x6 h => ?_)
      refine lv_iconst (v := 1) hx hb dX10_change_36 (by decide) ?_
      refine lv_isub hx hb dX10_change_37 ?_
      refine lv_i2l hx hb dX10_change_38 rfl ?_
      obtain ⟨x7, S1, hc, h⟩ := bd_some h
      refine R_cSi C hd (ccX10_isIn l G  hc) kX10_170  hl.1 ⟨by decide, by decide⟩ rfl rfl (Nat.le_of_ble_eq_true rfl) dX10_change_39 ⟨Nat.zero_le _, Nat.zero_le _⟩ (fun H locs hd => ?_)
      generalize S1 = S at h hd
      refine lv_if_ne (tgt := 51) hx hb dX10_change_42 (by decide) (fun c8 => ?_) (fun c8 => ?_)
      · rw [if_neg c8] at h
        refine lv_aload_n hx hb dX10_change_51 rfl (lv_at hl 0 rfl) ?_
        obtain ⟨S1, hc, h⟩ := bv_some h
        refine R_cVv C hd (ccX10_keep l G  hc) kX10_415 rfl (by decide) (rfl : kd 142 = 10) hl.1 ⟨by decide, by decide⟩ rfl rfl (Nat.le_of_ble_eq_true rfl) dX10_change_52 ⟨Nat.zero_le _, Nat.zero_le _⟩ (fun H locs hd => ?_)
        generalize S1 = S at h hd
        refine lv_aload_n hx hb dX10_change_55 rfl (lv_at hl 0 rfl) ?_
        refine gX10_89 C hd (rfl : kd 142 = 10) (q := 161) rfl dX10_change_56 (fun y9 => ?_)
        refine lv_bipush (v := 6) hx hb dX10_change_59 (by decide) ?_
        refine lv_iload_n hx hb dX10_change_61 rfl (lv_at hl 1 rfl) ?_
        refine lv_imul hx hb dX10_change_62 ?_
        refine lv_iload_n hx hb dX10_change_63 rfl (lv_at hl 2 rfl) ?_
        refine lv_iadd hx hb dX10_change_64 ?_
        refine R_iald C hd y9 h dX10_change_65 (fun x10 h => ?_)
        refine lv_istore (lv' := [(4, .int x10), (0, .ref (gR G 142)), (1, .int a1), (2, .int a2), (3, .int a3)]) hx hb dX10_change_66 hl (by decide) rfl (fun ls hl => ?_)
        refine lv_aload_n hx hb dX10_change_68 rfl (lv_at hl 1 rfl) ?_
        refine gX10_89 C hd (rfl : kd 142 = 10) (q := 161) rfl dX10_change_69 (fun y11 => ?_)
        refine lv_bipush (v := 6) hx hb dX10_change_72 (by decide) ?_
        refine lv_iload_n hx hb dX10_change_74 rfl (lv_at hl 2 rfl) ?_
        refine lv_imul hx hb dX10_change_75 ?_
        refine lv_iload_n hx hb dX10_change_76 rfl (lv_at hl 3 rfl) ?_
        refine lv_iadd hx hb dX10_change_77 ?_
        refine lv_iload_n hx hb dX10_change_78 rfl (lv_at hl 4 rfl) ?_
        refine R_iast C hd y11 h dX10_change_79 (fun S H locs hd h => ?_)
        refine lv_iload hx hb dX10_change_80 (lv_at hl 0 rfl) ?_
        exact R_iret C hr hd h dX10_change_82
      · rw [if_pos c8] at h
        refine lv_aload_n hx hb dX10_change_45 rfl (lv_at hl 0 rfl) ?_
        refine lv_iconst (v := 1) hx hb dX10_change_46 (by decide) ?_
        obtain ⟨x12, S1, hc, h⟩ := bd_some h
        refine R_cVi C hd (ccX10_refuse l G  hc) kX10_412 rfl (by decide) (rfl : kd 142 = 10) hl.1 ⟨by decide, by decide⟩ rfl rfl (Nat.le_of_ble_eq_true rfl) dX10_change_47 ⟨Nat.zero_le _, Nat.zero_le _⟩ (fun H locs hd => ?_)
        generalize S1 = S at h hd
        exact R_iret C hr hd h dX10_change_50
    · rw [if_pos c4] at h
      exact sBX10_change_21 C hr  hd (lv_sub hl [0] rfl) h
set_option maxRecDepth 20000 in
theorem ccX10_change (l : Launch) (G : Gt) {a1 : Int32} {a2 : Int32} {a3 : Int32} {S : St} {res : (Int32 × St)}  (h : fX10_change a1 a2 a3 S = some res) : Met l yX10_change (wm yX10_change cX10_change 5 (some .int)) (rmL 5 0 0) (PcW G S [.ref (gR G 142), .int a1, .int a2, .int a3]) (QI G res.1 res.2) 0 0 (Ab G) := by
  refine Met.ofW (cc := cX10_change) (maxL := 5) (ret := (some .int)) (by decide) rfl ?_
  intro p e s m args below meth c s₁ B hml hv
  obtain ⟨rfl, hK, hP⟩ := hv
  have C : Cx p s m _ meth c cX10_change 5 RX10 G := ⟨⟨B.exec, B.bytes, hml, findClass_of_methodNamed B.named, fun w hw => atoms_spec (ws := wm yX10_change cX10_change 5 (some .int)) B.pre w (List.mem_cons_of_mem _ hw)⟩, B.notSynchronized, hK⟩
  have hl := lv_entry ([.ref (gR G 142), .int a1, .int a2, .int a3]) (n := 5) (Nat.le_of_ble_eq_true rfl)
  rw [lg_entry_eq]
  generalize (lg_sl ([.ref (gR G 142), .int a1, .int a2, .int a3]) ++ List.replicate (5 - (lg_sl ([.ref (gR G 142), .int a1, .int a2, .int a3])).length) Slot.unset).toArray = ls at hl ⊢
  exact sfX10_change C B.returns  ⟨hP, va_S.rf⟩ hl h
def BX10_sell_26  (S : St) : Option (Int32 × St) :=
  bd (fX10_failing 1 S) fun x1 S => rz x1 S
set_option maxHeartbeats 4000000 in
set_option maxRecDepth 20000 in
theorem sBX10_sell_26 (C : Cx p s m args meth c cX10_sell 3 RX10 G) (hr : meth.sig.returnType = some .boolean)  {S : St} {res : (Int32 × St)} {H : Heap} {locs : List Loc} {ls : Array Slot}  (hd : Dy G S s H locs) (hl : lv_has ls 3 [(0, .ref (gR G 142))]) (h : BX10_sell_26  S = some res) : W p l e (rmL 5 0 0) s m args below meth c H locs 0 0 (MQ below (QI G res.1 res.2) args s 0 0 (Ab G)) (F0 m 26 ls []) := by
  unfold BX10_sell_26 at h
  have hx := C.1.1
  have hb := C.1.2.1
  refine lv_aload_n hx hb dX10_sell_26 rfl (lv_at hl 0 rfl) ?_
  refine lv_iconst (v := 1) hx hb dX10_sell_27 (by decide) ?_
  obtain ⟨x1, S1, hc, h⟩ := bd_some h
  refine R_cVi C hd (ccX10_failing l G  hc) kX10_421 rfl (by decide) (rfl : kd 142 = 10) hl.1 ⟨by decide, by decide⟩ rfl rfl (Nat.le_of_ble_eq_true rfl) dX10_sell_28 ⟨Nat.zero_le _, Nat.zero_le _⟩ (fun H locs hd => ?_)
  generalize S1 = S at h hd
  exact R_zret C hr hd h dX10_sell_31
def BX10_sell_32 (l1 : Int32) (l2 : Int32) (S : St) : Option (Int32 × St) :=
  rd S 162 l1 fun x2 => (if x2 = l2 then bd (fX10_refuses  S) fun x5 S => rz x5 S else bv (fX10_keep  S) fun S => wr S 162 l1 l2 fun S => rz 1 S)
set_option maxHeartbeats 4000000 in
set_option maxRecDepth 20000 in
theorem sBX10_sell_32 (C : Cx p s m args meth c cX10_sell 3 RX10 G) (hr : meth.sig.returnType = some .boolean) {l1 : Int32} {l2 : Int32} {S : St} {res : (Int32 × St)} {H : Heap} {locs : List Loc} {ls : Array Slot}  (hd : Dy G S s H locs) (hl : lv_has ls 3 [(0, .ref (gR G 142)), (1, .int l1), (2, .int l2)]) (h : BX10_sell_32 l1 l2 S = some res) : W p l e (rmL 5 0 0) s m args below meth c H locs 0 0 (MQ below (QI G res.1 res.2) args s 0 0 (Ab G)) (F0 m 32 ls []) := by
  unfold BX10_sell_32 at h
  have hx := C.1.1
  have hb := C.1.2.1
  refine lv_aload_n hx hb dX10_sell_32 rfl (lv_at hl 0 rfl) ?_
  refine gX10_92 C hd (rfl : kd 142 = 10) (q := 162) rfl dX10_sell_33 (fun y1 => ?_)
  refine lv_iload_n hx hb dX10_sell_36 rfl (lv_at hl 1 rfl) ?_
  refine R_iald C hd y1 h dX10_sell_37 (fun x2 h => ?_)
  refine lv_iload_n hx hb dX10_sell_38 rfl (lv_at hl 2 rfl) ?_
  refine lv_icmp_ne (tgt := 47) hx hb dX10_sell_39 (by decide) (fun c3 => ?_) (fun c3 => ?_)
  · rw [if_neg c3] at h
    refine lv_aload_n hx hb dX10_sell_47 rfl (lv_at hl 0 rfl) ?_
    obtain ⟨S1, hc, h⟩ := bv_some h
    refine R_cVv C hd (ccX10_keep l G  hc) kX10_415 rfl (by decide) (rfl : kd 142 = 10) hl.1 ⟨by decide, by decide⟩ rfl rfl (Nat.le_of_ble_eq_true rfl) dX10_sell_48 ⟨Nat.zero_le _, Nat.zero_le _⟩ (fun H locs hd => ?_)
    generalize S1 = S at h hd
    refine lv_aload_n hx hb dX10_sell_51 rfl (lv_at hl 0 rfl) ?_
    refine gX10_92 C hd (rfl : kd 142 = 10) (q := 162) rfl dX10_sell_52 (fun y4 => ?_)
    refine lv_iload_n hx hb dX10_sell_55 rfl (lv_at hl 1 rfl) ?_
    refine lv_iload_n hx hb dX10_sell_56 rfl (lv_at hl 2 rfl) ?_
    refine R_iast C hd y4 h dX10_sell_57 (fun S H locs hd h => ?_)
    refine lv_iconst (v := 1) hx hb dX10_sell_58 (by decide) ?_
    exact R_zret C hr hd h dX10_sell_59
  · rw [if_pos c3] at h
    refine lv_aload_n hx hb dX10_sell_42 rfl (lv_at hl 0 rfl) ?_
    obtain ⟨x5, S1, hc, h⟩ := bd_some h
    refine R_cVi C hd (ccX10_refuses l G  hc) kX10_424 rfl (by decide) (rfl : kd 142 = 10) hl.1 ⟨by decide, by decide⟩ rfl rfl (Nat.le_of_ble_eq_true rfl) dX10_sell_43 ⟨Nat.zero_le _, Nat.zero_le _⟩ (fun H locs hd => ?_)
    generalize S1 = S at h hd
    exact R_zret C hr hd h dX10_sell_46
def fX10_sell (a1 : Int32) (a2 : Int32) (S : St) : Option (Int32 × St) :=
  pf S 142 3 0 fun S => bd (fX10_isField a1 S) fun x1 S => (if x1 = 0 then (BX10_sell_26  S) else (if a2 = (-1) then (BX10_sell_32 a1 a2 S) else bd (fX10_isSinger a2 S) fun x4 S => (if x4 = 0 then (BX10_sell_26  S) else (BX10_sell_32 a1 a2 S))))
set_option maxHeartbeats 4000000 in
set_option maxRecDepth 20000 in
theorem sfX10_sell (C : Cx p s m args meth c cX10_sell 3 RX10 G) (hr : meth.sig.returnType = some .boolean) {a1 : Int32} {a2 : Int32} {S : St} {res : (Int32 × St)} {H : Heap} {locs : List Loc} {ls : Array Slot}  (hd : Dy G S s H locs) (hl : lv_has ls 3 [(0, .ref (gR G 142)), (1, .int a1), (2, .int a2)]) (h : fX10_sell a1 a2 S = some res) : W p l e (rmL 5 0 0) s m args below meth c H locs 0 0 (MQ below (QI G res.1 res.2) args s 0 0 (Ab G)) (F0 m 0 ls []) := by
  unfold fX10_sell at h
  have hx := C.1.1
  have hb := C.1.2.1
  refine lv_aload_n hx hb dX10_sell_0 rfl (lv_at hl 0 rfl) ?_
  refine lv_iconst (v := 0) hx hb dX10_sell_1 (by decide) ?_
  refine pX10_167 C hd (rfl : kd 142 = 10) h dX10_sell_2 (fun S H locs hd h => ?_)
  refine lv_aload_n hx hb dX10_sell_5 rfl (lv_at hl 0 rfl) ?_
  refine lv_iload_n hx hb dX10_sell_6 rfl (lv_at hl 1 rfl) ?_
  obtain ⟨x1, S1, hc, h⟩ := bd_some h
  refine R_cVi C hd (ccX10_isField l G  hc) kX10_392 rfl (by decide) (rfl : kd 142 = 10) hl.1 ⟨by decide, by decide⟩ rfl rfl (Nat.le_of_ble_eq_true rfl) dX10_sell_7 ⟨Nat.zero_le _, Nat.zero_le _⟩ (fun H locs hd => ?_)
  generalize S1 = S at h hd
  refine lv_if_eq (tgt := 26) hx hb dX10_sell_10 (by decide) (fun c2 => ?_) (fun c2 => ?_)
  · rw [if_pos c2] at h
    exact sBX10_sell_26 C hr  hd (lv_sub hl [0] rfl) h
  · rw [if_neg c2] at h
    refine lv_iload_n hx hb dX10_sell_13 rfl (lv_at hl 2 rfl) ?_
    refine lv_iconst (v := -1) hx hb dX10_sell_14 (by decide) ?_
    refine lv_icmp_eq (tgt := 32) hx hb dX10_sell_15 (by decide) (fun c3 => ?_) (fun c3 => ?_)
    · rw [if_pos c3] at h
      exact sBX10_sell_32 C hr  hd (lv_sub hl [0, 1, 2] rfl) h
    · rw [if_neg c3] at h
      refine lv_aload_n hx hb dX10_sell_18 rfl (lv_at hl 0 rfl) ?_
      refine lv_iload_n hx hb dX10_sell_19 rfl (lv_at hl 2 rfl) ?_
      obtain ⟨x4, S1, hc, h⟩ := bd_some h
      refine R_cVi C hd (ccX10_isSinger l G  hc) kX10_400 rfl (by decide) (rfl : kd 142 = 10) hl.1 ⟨by decide, by decide⟩ rfl rfl (Nat.le_of_ble_eq_true rfl) dX10_sell_20 ⟨Nat.zero_le _, Nat.zero_le _⟩ (fun H locs hd => ?_)
      generalize S1 = S at h hd
      refine lv_if_ne (tgt := 32) hx hb dX10_sell_23 (by decide) (fun c5 => ?_) (fun c5 => ?_)
      · rw [if_neg c5] at h
        exact sBX10_sell_32 C hr  hd (lv_sub hl [0, 1, 2] rfl) h
      · rw [if_pos c5] at h
        exact sBX10_sell_26 C hr  hd (lv_sub hl [0] rfl) h
set_option maxRecDepth 20000 in
theorem ccX10_sell (l : Launch) (G : Gt) {a1 : Int32} {a2 : Int32} {S : St} {res : (Int32 × St)}  (h : fX10_sell a1 a2 S = some res) : Met l yX10_sell (wm yX10_sell cX10_sell 3 (some .boolean)) (rmL 5 0 0) (PcW G S [.ref (gR G 142), .int a1, .int a2]) (QI G res.1 res.2) 0 0 (Ab G) := by
  refine Met.ofW (cc := cX10_sell) (maxL := 3) (ret := (some .boolean)) (by decide) rfl ?_
  intro p e s m args below meth c s₁ B hml hv
  obtain ⟨rfl, hK, hP⟩ := hv
  have C : Cx p s m _ meth c cX10_sell 3 RX10 G := ⟨⟨B.exec, B.bytes, hml, findClass_of_methodNamed B.named, fun w hw => atoms_spec (ws := wm yX10_sell cX10_sell 3 (some .boolean)) B.pre w (List.mem_cons_of_mem _ hw)⟩, B.notSynchronized, hK⟩
  have hl := lv_entry ([.ref (gR G 142), .int a1, .int a2]) (n := 3) (Nat.le_of_ble_eq_true rfl)
  rw [lg_entry_eq]
  generalize (lg_sl ([.ref (gR G 142), .int a1, .int a2]) ++ List.replicate (3 - (lg_sl ([.ref (gR G 142), .int a1, .int a2])).length) Slot.unset).toArray = ls at hl ⊢
  exact sfX10_sell C B.returns  ⟨hP, va_S.rf⟩ hl h
def fX10_undo  (S : St) : Option (Int32 × St) :=
  pf S 142 3 0 fun S => (if (S 142 36) = 0 then ri ((-1)) S else pf S 142 36 ((S 142 36) - 1) fun S => bv (fX10_unpack 163 (106 * (S 142 36)) S) fun S => ri (S 142 36) S)
set_option maxHeartbeats 4000000 in
set_option maxRecDepth 20000 in
theorem sfX10_undo (C : Cx p s m args meth c cX10_undo 1 RX10 G) (hr : meth.sig.returnType = some .int)  {S : St} {res : (Int32 × St)} {H : Heap} {locs : List Loc} {ls : Array Slot}  (hd : Dy G S s H locs) (hl : lv_has ls 1 [(0, .ref (gR G 142))]) (h : fX10_undo  S = some res) : W p l e (rmL 4 0 0) s m args below meth c H locs 0 0 (MQ below (QI G res.1 res.2) args s 0 0 (Ab G)) (F0 m 0 ls []) := by
  unfold fX10_undo at h
  have hx := C.1.1
  have hb := C.1.2.1
  refine lv_aload_n hx hb dX10_undo_0 rfl (lv_at hl 0 rfl) ?_
  refine lv_iconst (v := 0) hx hb dX10_undo_1 (by decide) ?_
  refine pX10_167 C hd (rfl : kd 142 = 10) h dX10_undo_2 (fun S H locs hd h => ?_)
  refine lv_aload_n hx hb dX10_undo_5 rfl (lv_at hl 0 rfl) ?_
  refine gX10_346 C hd (rfl : kd 142 = 10) dX10_undo_6 ?_
  refine lv_if_ne (tgt := 14) hx hb dX10_undo_9 (by decide) (fun c1 => ?_) (fun c1 => ?_)
  · rw [if_neg c1] at h
    refine lv_aload_n hx hb dX10_undo_14 rfl (lv_at hl 0 rfl) ?_
    refine lv_dup hx hb dX10_undo_15 rfl ?_
    refine gX10_346 C hd (rfl : kd 142 = 10) dX10_undo_16 ?_
    refine lv_iconst (v := 1) hx hb dX10_undo_19 (by decide) ?_
    refine lv_isub hx hb dX10_undo_20 ?_
    refine pX10_346 C hd (rfl : kd 142 = 10) h dX10_undo_21 (fun S H locs hd h => ?_)
    refine lv_aload_n hx hb dX10_undo_24 rfl (lv_at hl 0 rfl) ?_
    refine lv_aload_n hx hb dX10_undo_25 rfl (lv_at hl 0 rfl) ?_
    refine gX10_95 C hd (rfl : kd 142 = 10) (q := 163) rfl dX10_undo_26 (fun y2 => ?_)
    refine lv_bipush (v := 106) hx hb dX10_undo_29 (by decide) ?_
    refine lv_aload_n hx hb dX10_undo_31 rfl (lv_at hl 0 rfl) ?_
    refine gX10_346 C hd (rfl : kd 142 = 10) dX10_undo_32 ?_
    refine lv_imul hx hb dX10_undo_35 ?_
    obtain ⟨S1, hc, h⟩ := bv_some h
    refine R_cVv C hd (ccX10_unpack l G y2 hc) kX10_430 rfl (by decide) (rfl : kd 142 = 10) hl.1 ⟨by decide, by decide⟩ rfl rfl (Nat.le_of_ble_eq_true rfl) dX10_undo_36 ⟨Nat.zero_le _, Nat.zero_le _⟩ (fun H locs hd => ?_)
    generalize S1 = S at h hd
    refine lv_aload_n hx hb dX10_undo_39 rfl (lv_at hl 0 rfl) ?_
    refine gX10_346 C hd (rfl : kd 142 = 10) dX10_undo_40 ?_
    exact R_iret C hr hd h dX10_undo_43
  · rw [if_pos c1] at h
    refine lv_iconst (v := -1) hx hb dX10_undo_12 (by decide) ?_
    exact R_iret C hr hd h dX10_undo_13
set_option maxRecDepth 20000 in
theorem ccX10_undo (l : Launch) (G : Gt)  {S : St} {res : (Int32 × St)}  (h : fX10_undo  S = some res) : Met l yX10_undo (wm yX10_undo cX10_undo 1 (some .int)) (rmL 4 0 0) (PcW G S [.ref (gR G 142)]) (QI G res.1 res.2) 0 0 (Ab G) := by
  refine Met.ofW (cc := cX10_undo) (maxL := 1) (ret := (some .int)) (by decide) rfl ?_
  intro p e s m args below meth c s₁ B hml hv
  obtain ⟨rfl, hK, hP⟩ := hv
  have C : Cx p s m _ meth c cX10_undo 1 RX10 G := ⟨⟨B.exec, B.bytes, hml, findClass_of_methodNamed B.named, fun w hw => atoms_spec (ws := wm yX10_undo cX10_undo 1 (some .int)) B.pre w (List.mem_cons_of_mem _ hw)⟩, B.notSynchronized, hK⟩
  have hl := lv_entry ([.ref (gR G 142)]) (n := 1) (Nat.le_of_ble_eq_true rfl)
  rw [lg_entry_eq]
  generalize (lg_sl ([.ref (gR G 142)]) ++ List.replicate (1 - (lg_sl ([.ref (gR G 142)])).length) Slot.unset).toArray = ls at hl ⊢
  exact sfX10_undo C B.returns  ⟨hP, va_S.rf⟩ hl h
def fX10_sung (a1 : Int32) (a2 : Int32) (S : St) : Option (Int32 × St) :=
  pf S 142 3 0 fun S => bd (fX10_isSinger a1 S) fun x1 S => (if x1 = 0 then bd (fX10_fail 1 S) fun x10 S => ri x10 S else bd (fX10_isIn (a2.toInt64) 1 60 S) fun x3 S => (if x3 = 0 then bd (fX10_fail 2 S) fun x9 S => ri x9 S else bv (fX10_pack 169 0 S) fun S => bv (fX10_goOn a2 S) fun S => bv (fX10_unpack 169 0 S) fun S => rd S 167 a1 fun x8 => ri x8 S))
set_option maxHeartbeats 4000000 in
set_option maxRecDepth 20000 in
theorem sfX10_sung (C : Cx p s m args meth c cX10_sung 3 RX10 G) (hr : meth.sig.returnType = some .int) {a1 : Int32} {a2 : Int32} {S : St} {res : (Int32 × St)} {H : Heap} {locs : List Loc} {ls : Array Slot}  (hd : Dy G S s H locs) (hl : lv_has ls 3 [(0, .ref (gR G 142)), (1, .int a1), (2, .int a2)]) (h : fX10_sung a1 a2 S = some res) : W p l e (rmL 9 0 0) s m args below meth c H locs 0 0 (MQ below (QI G res.1 res.2) args s 0 0 (Ab G)) (F0 m 0 ls []) := by
  unfold fX10_sung at h
  have hx := C.1.1
  have hb := C.1.2.1
  refine lv_aload_n hx hb dX10_sung_0 rfl (lv_at hl 0 rfl) ?_
  refine lv_iconst (v := 0) hx hb dX10_sung_1 (by decide) ?_
  refine pX10_167 C hd (rfl : kd 142 = 10) h dX10_sung_2 (fun S H locs hd h => ?_)
  refine lv_aload_n hx hb dX10_sung_5 rfl (lv_at hl 0 rfl) ?_
  refine lv_iload_n hx hb dX10_sung_6 rfl (lv_at hl 1 rfl) ?_
  obtain ⟨x1, S1, hc, h⟩ := bd_some h
  refine R_cVi C hd (ccX10_isSinger l G  hc) kX10_400 rfl (by decide) (rfl : kd 142 = 10) hl.1 ⟨by decide, by decide⟩ rfl rfl (Nat.le_of_ble_eq_true rfl) dX10_sung_7 ⟨Nat.zero_le _, Nat.zero_le _⟩ (fun H locs hd => ?_)
  generalize S1 = S at h hd
  refine lv_if_ne (tgt := 19) hx hb dX10_sung_10 (by decide) (fun c2 => ?_) (fun c2 => ?_)
  · rw [if_neg c2] at h
    refine lv_iload_n hx hb dX10_sung_19 rfl (lv_at hl 2 rfl) ?_
    refine lv_i2l hx hb dX10_sung_20 rfl ?_
    refine lv_lconst (v := 1) hx hb dX10_sung_21 rfl ?_
    refine lv_ldc2 hx hb C.1.2.2.2.1 (C.1.2.2.2.2 _ kcX10_433) dX10_sung_22 ?_
    obtain ⟨x3, S1, hc, h⟩ := bd_some h
    refine R_cSi C hd (ccX10_isIn l G  hc) kX10_170  hl.1 ⟨by decide, by decide⟩ rfl rfl (Nat.le_of_ble_eq_true rfl) dX10_sung_25 ⟨Nat.zero_le _, Nat.zero_le _⟩ (fun H locs hd => ?_)
    generalize S1 = S at h hd
    refine lv_if_ne (tgt := 37) hx hb dX10_sung_28 (by decide) (fun c4 => ?_) (fun c4 => ?_)
    · rw [if_neg c4] at h
      refine lv_aload_n hx hb dX10_sung_37 rfl (lv_at hl 0 rfl) ?_
      refine lv_aload_n hx hb dX10_sung_38 rfl (lv_at hl 0 rfl) ?_
      refine gX10_116 C hd (rfl : kd 142 = 10) (q := 169) rfl dX10_sung_39 (fun y5 => ?_)
      refine lv_iconst (v := 0) hx hb dX10_sung_42 (by decide) ?_
      obtain ⟨S1, hc, h⟩ := bv_some h
      refine R_cVv C hd (ccX10_pack l G y5 hc) kX10_406 rfl (by decide) (rfl : kd 142 = 10) hl.1 ⟨by decide, by decide⟩ rfl rfl (Nat.le_of_ble_eq_true rfl) dX10_sung_43 ⟨Nat.zero_le _, Nat.zero_le _⟩ (fun H locs hd => ?_)
      generalize S1 = S at h hd
      refine lv_aload_n hx hb dX10_sung_46 rfl (lv_at hl 0 rfl) ?_
      refine lv_iload_n hx hb dX10_sung_47 rfl (lv_at hl 2 rfl) ?_
      obtain ⟨S1, hc, h⟩ := bv_some h
      refine R_cVv C hd (ccX10_goOn l G  hc) kX10_418 rfl (by decide) (rfl : kd 142 = 10) hl.1 ⟨by decide, by decide⟩ rfl rfl (Nat.le_of_ble_eq_true rfl) dX10_sung_48 ⟨Nat.zero_le _, Nat.zero_le _⟩ (fun H locs hd => ?_)
      generalize S1 = S at h hd
      refine lv_aload_n hx hb dX10_sung_51 rfl (lv_at hl 0 rfl) ?_
      refine lv_aload_n hx hb dX10_sung_52 rfl (lv_at hl 0 rfl) ?_
      refine gX10_116 C hd (rfl : kd 142 = 10) (q := 169) rfl dX10_sung_53 (fun y6 => ?_)
      refine lv_iconst (v := 0) hx hb dX10_sung_56 (by decide) ?_
      obtain ⟨S1, hc, h⟩ := bv_some h
      refine R_cVv C hd (ccX10_unpack l G y6 hc) kX10_430 rfl (by decide) (rfl : kd 142 = 10) hl.1 ⟨by decide, by decide⟩ rfl rfl (Nat.le_of_ble_eq_true rfl) dX10_sung_57 ⟨Nat.zero_le _, Nat.zero_le _⟩ (fun H locs hd => ?_)
      generalize S1 = S at h hd
      refine lv_aload_n hx hb dX10_sung_60 rfl (lv_at hl 0 rfl) ?_
      refine gX10_110 C hd (rfl : kd 142 = 10) (q := 167) rfl dX10_sung_61 (fun y7 => ?_)
      refine lv_iload_n hx hb dX10_sung_64 rfl (lv_at hl 1 rfl) ?_
      refine R_iald C hd y7 h dX10_sung_65 (fun x8 h => ?_)
      exact R_iret C hr hd h dX10_sung_66
    · rw [if_pos c4] at h
      refine lv_aload_n hx hb dX10_sung_31 rfl (lv_at hl 0 rfl) ?_
      refine lv_iconst (v := 2) hx hb dX10_sung_32 (by decide) ?_
      obtain ⟨x9, S1, hc, h⟩ := bd_some h
      refine R_cVi C hd (ccX10_fail l G  hc) kX10_325 rfl (by decide) (rfl : kd 142 = 10) hl.1 ⟨by decide, by decide⟩ rfl rfl (Nat.le_of_ble_eq_true rfl) dX10_sung_33 ⟨Nat.zero_le _, Nat.zero_le _⟩ (fun H locs hd => ?_)
      generalize S1 = S at h hd
      exact R_iret C hr hd h dX10_sung_36
  · rw [if_pos c2] at h
    refine lv_aload_n hx hb dX10_sung_13 rfl (lv_at hl 0 rfl) ?_
    refine lv_iconst (v := 1) hx hb dX10_sung_14 (by decide) ?_
    obtain ⟨x10, S1, hc, h⟩ := bd_some h
    refine R_cVi C hd (ccX10_fail l G  hc) kX10_325 rfl (by decide) (rfl : kd 142 = 10) hl.1 ⟨by decide, by decide⟩ rfl rfl (Nat.le_of_ble_eq_true rfl) dX10_sung_15 ⟨Nat.zero_le _, Nat.zero_le _⟩ (fun H locs hd => ?_)
    generalize S1 = S at h hd
    exact R_iret C hr hd h dX10_sung_18
set_option maxRecDepth 20000 in
theorem ccX10_sung (l : Launch) (G : Gt) {a1 : Int32} {a2 : Int32} {S : St} {res : (Int32 × St)}  (h : fX10_sung a1 a2 S = some res) : Met l yX10_sung (wm yX10_sung cX10_sung 3 (some .int)) (rmL 9 0 0) (PcW G S [.ref (gR G 142), .int a1, .int a2]) (QI G res.1 res.2) 0 0 (Ab G) := by
  refine Met.ofW (cc := cX10_sung) (maxL := 3) (ret := (some .int)) (by decide) rfl ?_
  intro p e s m args below meth c s₁ B hml hv
  obtain ⟨rfl, hK, hP⟩ := hv
  have C : Cx p s m _ meth c cX10_sung 3 RX10 G := ⟨⟨B.exec, B.bytes, hml, findClass_of_methodNamed B.named, fun w hw => atoms_spec (ws := wm yX10_sung cX10_sung 3 (some .int)) B.pre w (List.mem_cons_of_mem _ hw)⟩, B.notSynchronized, hK⟩
  have hl := lv_entry ([.ref (gR G 142), .int a1, .int a2]) (n := 3) (Nat.le_of_ble_eq_true rfl)
  rw [lg_entry_eq]
  generalize (lg_sl ([.ref (gR G 142), .int a1, .int a2]) ++ List.replicate (3 - (lg_sl ([.ref (gR G 142), .int a1, .int a2])).length) Slot.unset).toArray = ls at hl ⊢
  exact sfX10_sung C B.returns  ⟨hP, va_S.rf⟩ hl h
def BX10_knownIn_102 (l3 : Int32) (S : St) : Option (Int32 × St) :=
  bv (fX10_unpack 169 0 S) fun S => ri l3 S
set_option maxHeartbeats 4000000 in
set_option maxRecDepth 20000 in
theorem sBX10_knownIn_102 (C : Cx p s m args meth c cX10_knownIn 7 RX10 G) (hr : meth.sig.returnType = some .int) {l3 : Int32} {S : St} {res : (Int32 × St)} {H : Heap} {locs : List Loc} {ls : Array Slot}  (hd : Dy G S s H locs) (hl : lv_has ls 7 [(0, .ref (gR G 142)), (3, .int l3)]) (h : BX10_knownIn_102 l3 S = some res) : W p l e (rmL 8 0 0) s m args below meth c H locs 0 0 (MQ below (QI G res.1 res.2) args s 0 0 (Ab G)) (F0 m 102 ls []) := by
  unfold BX10_knownIn_102 at h
  have hx := C.1.1
  have hb := C.1.2.1
  refine lv_aload_n hx hb dX10_knownIn_102 rfl (lv_at hl 0 rfl) ?_
  refine lv_aload_n hx hb dX10_knownIn_103 rfl (lv_at hl 0 rfl) ?_
  refine gX10_116 C hd (rfl : kd 142 = 10) (q := 169) rfl dX10_knownIn_104 (fun y1 => ?_)
  refine lv_iconst (v := 0) hx hb dX10_knownIn_107 (by decide) ?_
  obtain ⟨S1, hc, h⟩ := bv_some h
  refine R_cVv C hd (ccX10_unpack l G y1 hc) kX10_430 rfl (by decide) (rfl : kd 142 = 10) hl.1 ⟨by decide, by decide⟩ rfl rfl (Nat.le_of_ble_eq_true rfl) dX10_knownIn_108 ⟨Nat.zero_le _, Nat.zero_le _⟩ (fun H locs hd => ?_)
  generalize S1 = S at h hd
  refine lv_iload_n hx hb dX10_knownIn_111 rfl (lv_at hl 1 rfl) ?_
  exact R_iret C hr hd h dX10_knownIn_112
def BX10_knownIn_92 (r14 : Int32 → Int32 → Int32 → Int32 → St → Option (Int32 × St)) (l1 : Int32) (l2 : Int32) (l3 : Int32) (l4 : Int32) (S : St) : Option (Int32 × St) :=
  bv (fX10_anHour  S) fun S => vl (l4 + 1) fun x1 => (r14 l1 l2 l3 x1 S)
set_option maxHeartbeats 4000000 in
set_option maxRecDepth 20000 in
theorem sBX10_knownIn_92 (C : Cx p s m args meth c cX10_knownIn 7 RX10 G) (hr : meth.sig.returnType = some .int) {r14 : Int32 → Int32 → Int32 → Int32 → St → Option (Int32 × St)} (hr14 : ∀ (l1 : Int32) (l2 : Int32) (l3 : Int32) (l4 : Int32) (S : St) (res : (Int32 × St)) (H : Heap) (locs : List Loc) (ls : Array Slot), Dy G S s H locs → lv_has ls 7 [(0, .ref (gR G 142)), (1, .int l1), (2, .int l2), (3, .int l3), (4, .int l4)] → r14 l1 l2 l3 l4 S = some res → W p l e (rmL 8 0 0) s m args below meth c H locs 0 0 (MQ below (QI G res.1 res.2) args s 0 0 (Ab G)) (F0 m 14 ls [])) {l1 : Int32} {l2 : Int32} {l3 : Int32} {l4 : Int32} {S : St} {res : (Int32 × St)} {H : Heap} {locs : List Loc} {ls : Array Slot}  (hd : Dy G S s H locs) (hl : lv_has ls 7 [(0, .ref (gR G 142)), (1, .int l1), (2, .int l2), (3, .int l3), (4, .int l4)]) (h : BX10_knownIn_92 r14 l1 l2 l3 l4 S = some res) : W p l e (rmL 8 0 0) s m args below meth c H locs 0 0 (MQ below (QI G res.1 res.2) args s 0 0 (Ab G)) (F0 m 92 ls []) := by
  unfold BX10_knownIn_92 at h
  have hx := C.1.1
  have hb := C.1.2.1
  refine lv_aload_n hx hb dX10_knownIn_92 rfl (lv_at hl 0 rfl) ?_
  obtain ⟨S1, hc, h⟩ := bv_some h
  refine R_cVv C hd (ccX10_anHour l G  hc) kX10_389 rfl (by decide) (rfl : kd 142 = 10) hl.1 ⟨by decide, by decide⟩ rfl rfl (Nat.le_of_ble_eq_true rfl) dX10_knownIn_93 ⟨Nat.zero_le _, Nat.zero_le _⟩ (fun H locs hd => ?_)
  generalize S1 = S at h hd
  refine R_vi h (fun x1 ex1 h => ?_)
  refine lv_iinc (v := x1) (lv' := [(4, .int x1), (0, .ref (gR G 142)), (1, .int l1), (2, .int l2), (3, .int l3)]) hx hb dX10_knownIn_96 hl (k := 4) rfl (by rw [ex1]; rfl) (by decide) rfl (fun ls hl => ?_)
  refine lv_goto (tgt := 14) hx hb dX10_knownIn_99 (by decide) ?_
  exact hr14 l1 l2 l3 x1 _ _ _ _ _  hd (lv_sub hl [1, 2, 3, 4, 0] rfl) h
def BX10_knownIn_76 (r14 : Int32 → Int32 → Int32 → Int32 → St → Option (Int32 × St)) (r32 : Int32 → Int32 → Int32 → Int32 → Int32 → Int32 → St → Option (Int32 × St)) (l1 : Int32) (l2 : Int32) (l3 : Int32) (l4 : Int32) (l6 : Int32) (s0 : Int32) (S : St) : Option (Int32 × St) :=
  vl (l6 + 1) fun x1 => (r32 l1 l2 l3 l4 s0 x1 S)
set_option maxHeartbeats 4000000 in
set_option maxRecDepth 20000 in
theorem sBX10_knownIn_76 (C : Cx p s m args meth c cX10_knownIn 7 RX10 G) (hr : meth.sig.returnType = some .int) {r14 : Int32 → Int32 → Int32 → Int32 → St → Option (Int32 × St)} {r32 : Int32 → Int32 → Int32 → Int32 → Int32 → Int32 → St → Option (Int32 × St)} (hr14 : ∀ (l1 : Int32) (l2 : Int32) (l3 : Int32) (l4 : Int32) (S : St) (res : (Int32 × St)) (H : Heap) (locs : List Loc) (ls : Array Slot), Dy G S s H locs → lv_has ls 7 [(0, .ref (gR G 142)), (1, .int l1), (2, .int l2), (3, .int l3), (4, .int l4)] → r14 l1 l2 l3 l4 S = some res → W p l e (rmL 8 0 0) s m args below meth c H locs 0 0 (MQ below (QI G res.1 res.2) args s 0 0 (Ab G)) (F0 m 14 ls [])) (hr32 : ∀ (l1 : Int32) (l2 : Int32) (l3 : Int32) (l4 : Int32) (l5 : Int32) (l6 : Int32) (S : St) (res : (Int32 × St)) (H : Heap) (locs : List Loc) (ls : Array Slot), Dy G S s H locs → lv_has ls 7 [(0, .ref (gR G 142)), (1, .int l1), (2, .int l2), (3, .int l3), (4, .int l4), (5, .int l5), (6, .int l6)] → r32 l1 l2 l3 l4 l5 l6 S = some res → W p l e (rmL 8 0 0) s m args below meth c H locs 0 0 (MQ below (QI G res.1 res.2) args s 0 0 (Ab G)) (F0 m 32 ls [])) {l1 : Int32} {l2 : Int32} {l3 : Int32} {l4 : Int32} {l6 : Int32} {s0 : Int32} {S : St} {res : (Int32 × St)} {H : Heap} {locs : List Loc} {ls : Array Slot}  (hd : Dy G S s H locs) (hl : lv_has ls 7 [(0, .ref (gR G 142)), (1, .int l1), (2, .int l2), (3, .int l3), (4, .int l4), (6, .int l6)]) (h : BX10_knownIn_76 r14 r32 l1 l2 l3 l4 l6 s0 S = some res) : W p l e (rmL 8 0 0) s m args below meth c H locs 0 0 (MQ below (QI G res.1 res.2) args s 0 0 (Ab G)) (F0 m 76 ls [.int s0]) := by
  unfold BX10_knownIn_76 at h
  have hx := C.1.1
  have hb := C.1.2.1
  refine lv_istore (lv' := [(5, .int s0), (0, .ref (gR G 142)), (1, .int l1), (2, .int l2), (3, .int l3), (4, .int l4), (6, .int l6)]) hx hb dX10_knownIn_76 hl (by decide) rfl (fun ls hl => ?_)
  refine R_vi h (fun x1 ex1 h => ?_)
  refine lv_iinc (v := x1) (lv' := [(6, .int x1), (5, .int s0), (0, .ref (gR G 142)), (1, .int l1), (2, .int l2), (3, .int l3), (4, .int l4)]) hx hb dX10_knownIn_78 hl (k := 6) rfl (by rw [ex1]; rfl) (by decide) rfl (fun ls hl => ?_)
  refine lv_goto (tgt := 32) hx hb dX10_knownIn_81 (by decide) ?_
  exact hr32 l1 l2 l3 l4 s0 x1 _ _ _ _ _  hd (lv_sub hl [2, 3, 4, 5, 6, 1, 0] rfl) h
def BX10_knownIn_75 (r14 : Int32 → Int32 → Int32 → Int32 → St → Option (Int32 × St)) (r32 : Int32 → Int32 → Int32 → Int32 → Int32 → Int32 → St → Option (Int32 × St)) (l1 : Int32) (l2 : Int32) (l3 : Int32) (l4 : Int32) (l6 : Int32) (S : St) : Option (Int32 × St) :=
  (BX10_knownIn_76 r14 r32 l1 l2 l3 l4 l6 0 S)
set_option maxHeartbeats 4000000 in
set_option maxRecDepth 20000 in
theorem sBX10_knownIn_75 (C : Cx p s m args meth c cX10_knownIn 7 RX10 G) (hr : meth.sig.returnType = some .int) {r14 : Int32 → Int32 → Int32 → Int32 → St → Option (Int32 × St)} {r32 : Int32 → Int32 → Int32 → Int32 → Int32 → Int32 → St → Option (Int32 × St)} (hr14 : ∀ (l1 : Int32) (l2 : Int32) (l3 : Int32) (l4 : Int32) (S : St) (res : (Int32 × St)) (H : Heap) (locs : List Loc) (ls : Array Slot), Dy G S s H locs → lv_has ls 7 [(0, .ref (gR G 142)), (1, .int l1), (2, .int l2), (3, .int l3), (4, .int l4)] → r14 l1 l2 l3 l4 S = some res → W p l e (rmL 8 0 0) s m args below meth c H locs 0 0 (MQ below (QI G res.1 res.2) args s 0 0 (Ab G)) (F0 m 14 ls [])) (hr32 : ∀ (l1 : Int32) (l2 : Int32) (l3 : Int32) (l4 : Int32) (l5 : Int32) (l6 : Int32) (S : St) (res : (Int32 × St)) (H : Heap) (locs : List Loc) (ls : Array Slot), Dy G S s H locs → lv_has ls 7 [(0, .ref (gR G 142)), (1, .int l1), (2, .int l2), (3, .int l3), (4, .int l4), (5, .int l5), (6, .int l6)] → r32 l1 l2 l3 l4 l5 l6 S = some res → W p l e (rmL 8 0 0) s m args below meth c H locs 0 0 (MQ below (QI G res.1 res.2) args s 0 0 (Ab G)) (F0 m 32 ls [])) {l1 : Int32} {l2 : Int32} {l3 : Int32} {l4 : Int32} {l6 : Int32} {S : St} {res : (Int32 × St)} {H : Heap} {locs : List Loc} {ls : Array Slot}  (hd : Dy G S s H locs) (hl : lv_has ls 7 [(0, .ref (gR G 142)), (1, .int l1), (2, .int l2), (3, .int l3), (4, .int l4), (6, .int l6)]) (h : BX10_knownIn_75 r14 r32 l1 l2 l3 l4 l6 S = some res) : W p l e (rmL 8 0 0) s m args below meth c H locs 0 0 (MQ below (QI G res.1 res.2) args s 0 0 (Ab G)) (F0 m 75 ls []) := by
  unfold BX10_knownIn_75 at h
  have hx := C.1.1
  have hb := C.1.2.1
  refine lv_iconst (v := 0) hx hb dX10_knownIn_75 (by decide) ?_
  exact sBX10_knownIn_76 C hr hr14 hr32  hd (lv_sub hl [0, 1, 2, 3, 4, 5] rfl) h
def BX10_knownIn_71 (r14 : Int32 → Int32 → Int32 → Int32 → St → Option (Int32 × St)) (r32 : Int32 → Int32 → Int32 → Int32 → Int32 → Int32 → St → Option (Int32 × St)) (l1 : Int32) (l2 : Int32) (l3 : Int32) (l4 : Int32) (l6 : Int32) (S : St) : Option (Int32 × St) :=
  (BX10_knownIn_76 r14 r32 l1 l2 l3 l4 l6 1 S)
set_option maxHeartbeats 4000000 in
set_option maxRecDepth 20000 in
theorem sBX10_knownIn_71 (C : Cx p s m args meth c cX10_knownIn 7 RX10 G) (hr : meth.sig.returnType = some .int) {r14 : Int32 → Int32 → Int32 → Int32 → St → Option (Int32 × St)} {r32 : Int32 → Int32 → Int32 → Int32 → Int32 → Int32 → St → Option (Int32 × St)} (hr14 : ∀ (l1 : Int32) (l2 : Int32) (l3 : Int32) (l4 : Int32) (S : St) (res : (Int32 × St)) (H : Heap) (locs : List Loc) (ls : Array Slot), Dy G S s H locs → lv_has ls 7 [(0, .ref (gR G 142)), (1, .int l1), (2, .int l2), (3, .int l3), (4, .int l4)] → r14 l1 l2 l3 l4 S = some res → W p l e (rmL 8 0 0) s m args below meth c H locs 0 0 (MQ below (QI G res.1 res.2) args s 0 0 (Ab G)) (F0 m 14 ls [])) (hr32 : ∀ (l1 : Int32) (l2 : Int32) (l3 : Int32) (l4 : Int32) (l5 : Int32) (l6 : Int32) (S : St) (res : (Int32 × St)) (H : Heap) (locs : List Loc) (ls : Array Slot), Dy G S s H locs → lv_has ls 7 [(0, .ref (gR G 142)), (1, .int l1), (2, .int l2), (3, .int l3), (4, .int l4), (5, .int l5), (6, .int l6)] → r32 l1 l2 l3 l4 l5 l6 S = some res → W p l e (rmL 8 0 0) s m args below meth c H locs 0 0 (MQ below (QI G res.1 res.2) args s 0 0 (Ab G)) (F0 m 32 ls [])) {l1 : Int32} {l2 : Int32} {l3 : Int32} {l4 : Int32} {l6 : Int32} {S : St} {res : (Int32 × St)} {H : Heap} {locs : List Loc} {ls : Array Slot}  (hd : Dy G S s H locs) (hl : lv_has ls 7 [(0, .ref (gR G 142)), (1, .int l1), (2, .int l2), (3, .int l3), (4, .int l4), (6, .int l6)]) (h : BX10_knownIn_71 r14 r32 l1 l2 l3 l4 l6 S = some res) : W p l e (rmL 8 0 0) s m args below meth c H locs 0 0 (MQ below (QI G res.1 res.2) args s 0 0 (Ab G)) (F0 m 71 ls []) := by
  unfold BX10_knownIn_71 at h
  have hx := C.1.1
  have hb := C.1.2.1
  refine lv_iconst (v := 1) hx hb dX10_knownIn_71 (by decide) ?_
  refine lv_goto (tgt := 76) hx hb dX10_knownIn_72 (by decide) ?_
  exact sBX10_knownIn_76 C hr hr14 hr32  hd (lv_sub hl [0, 1, 2, 3, 4, 5] rfl) h
def KX10_knownIn_32 (r14 : Int32 → Int32 → Int32 → Int32 → St → Option (Int32 × St)) (r32 : Int32 → Int32 → Int32 → Int32 → Int32 → Int32 → St → Option (Int32 × St)) (l1 : Int32) (l2 : Int32) (l3 : Int32) (l4 : Int32) (l5 : Int32) (l6 : Int32) (S : St) : Option (Int32 × St) :=
  rd S 145 2 fun x2 => (if x2 ≤ l6 then (if l5 = 0 then (BX10_knownIn_92 r14 l1 l2 l3 l4 S) else (BX10_knownIn_92 r14 l1 l2 l4 l4 S)) else (if l5 = 0 then (BX10_knownIn_75 r14 r32 l1 l2 l3 l4 l6 S) else bd (fX10_isOf l1 l6 S) fun x6 S => (if x6 = 0 then (BX10_knownIn_71 r14 r32 l1 l2 l3 l4 l6 S) else rd S 158 l6 fun x9 => bd (fX10_isOf x9 l2 S) fun x10 S => (if x10 = 0 then (BX10_knownIn_75 r14 r32 l1 l2 l3 l4 l6 S) else (BX10_knownIn_71 r14 r32 l1 l2 l3 l4 l6 S)))))
set_option maxHeartbeats 4000000 in
set_option maxRecDepth 20000 in
theorem sKX10_knownIn_32 (C : Cx p s m args meth c cX10_knownIn 7 RX10 G) (hr : meth.sig.returnType = some .int) {r14 : Int32 → Int32 → Int32 → Int32 → St → Option (Int32 × St)} {r32 : Int32 → Int32 → Int32 → Int32 → Int32 → Int32 → St → Option (Int32 × St)} (hr14 : ∀ (l1 : Int32) (l2 : Int32) (l3 : Int32) (l4 : Int32) (S : St) (res : (Int32 × St)) (H : Heap) (locs : List Loc) (ls : Array Slot), Dy G S s H locs → lv_has ls 7 [(0, .ref (gR G 142)), (1, .int l1), (2, .int l2), (3, .int l3), (4, .int l4)] → r14 l1 l2 l3 l4 S = some res → W p l e (rmL 8 0 0) s m args below meth c H locs 0 0 (MQ below (QI G res.1 res.2) args s 0 0 (Ab G)) (F0 m 14 ls [])) (hr32 : ∀ (l1 : Int32) (l2 : Int32) (l3 : Int32) (l4 : Int32) (l5 : Int32) (l6 : Int32) (S : St) (res : (Int32 × St)) (H : Heap) (locs : List Loc) (ls : Array Slot), Dy G S s H locs → lv_has ls 7 [(0, .ref (gR G 142)), (1, .int l1), (2, .int l2), (3, .int l3), (4, .int l4), (5, .int l5), (6, .int l6)] → r32 l1 l2 l3 l4 l5 l6 S = some res → W p l e (rmL 8 0 0) s m args below meth c H locs 0 0 (MQ below (QI G res.1 res.2) args s 0 0 (Ab G)) (F0 m 32 ls [])) {l1 : Int32} {l2 : Int32} {l3 : Int32} {l4 : Int32} {l5 : Int32} {l6 : Int32} {S : St} {res : (Int32 × St)} {H : Heap} {locs : List Loc} {ls : Array Slot}  (hd : Dy G S s H locs) (hl : lv_has ls 7 [(0, .ref (gR G 142)), (1, .int l1), (2, .int l2), (3, .int l3), (4, .int l4), (5, .int l5), (6, .int l6)]) (h : KX10_knownIn_32 r14 r32 l1 l2 l3 l4 l5 l6 S = some res) : W p l e (rmL 8 0 0) s m args below meth c H locs 0 0 (MQ below (QI G res.1 res.2) args s 0 0 (Ab G)) (F0 m 32 ls []) := by
  unfold KX10_knownIn_32 at h
  have hx := C.1.1
  have hb := C.1.2.1
  refine lv_iload hx hb dX10_knownIn_32 (lv_at hl 6 rfl) ?_
  refine lv_aload_n hx hb dX10_knownIn_34 rfl (lv_at hl 0 rfl) ?_
  refine gX10_39 C hd (rfl : kd 142 = 10) (q := 145) rfl dX10_knownIn_35 (fun y1 => ?_)
  refine lv_iconst (v := 2) hx hb dX10_knownIn_38 (by decide) ?_
  refine R_iald C hd y1 h dX10_knownIn_39 (fun x2 h => ?_)
  refine lv_icmp_ge (tgt := 84) hx hb dX10_knownIn_40 (by decide) (fun c3 => ?_) (fun c3 => ?_)
  · rw [if_pos c3] at h
    refine lv_iload hx hb dX10_knownIn_84 (lv_at hl 5 rfl) ?_
    refine lv_if_eq (tgt := 92) hx hb dX10_knownIn_86 (by decide) (fun c4 => ?_) (fun c4 => ?_)
    · rw [if_pos c4] at h
      exact sBX10_knownIn_92 C hr hr14  hd (lv_sub hl [0, 1, 2, 3, 4] rfl) h
    · rw [if_neg c4] at h
      refine lv_iload hx hb dX10_knownIn_89 (lv_at hl 4 rfl) ?_
      refine lv_istore_n (lv' := [(3, .int l4), (0, .ref (gR G 142)), (1, .int l1), (2, .int l2), (4, .int l4), (5, .int l5), (6, .int l6)]) hx hb dX10_knownIn_91 rfl hl (by decide) rfl (fun ls hl => ?_)
      exact sBX10_knownIn_92 C hr hr14  hd (lv_sub hl [1, 2, 3, 0, 4] rfl) h
  · rw [if_neg c3] at h
    refine lv_iload hx hb dX10_knownIn_43 (lv_at hl 5 rfl) ?_
    refine lv_if_eq (tgt := 75) hx hb dX10_knownIn_45 (by decide) (fun c5 => ?_) (fun c5 => ?_)
    · rw [if_pos c5] at h
      exact sBX10_knownIn_75 C hr hr14 hr32  hd (lv_sub hl [0, 1, 2, 3, 4, 6] rfl) h
    · rw [if_neg c5] at h
      refine lv_iload_n hx hb dX10_knownIn_48 rfl (lv_at hl 1 rfl) ?_
      refine lv_iload hx hb dX10_knownIn_49 (lv_at hl 6 rfl) ?_
      obtain ⟨x6, S1, hc, h⟩ := bd_some h
      refine R_cSi C hd (ccX10_isOf l G  hc) kX10_298  hl.1 ⟨by decide, by decide⟩ rfl rfl (Nat.le_of_ble_eq_true rfl) dX10_knownIn_51 ⟨Nat.zero_le _, Nat.zero_le _⟩ (fun H locs hd => ?_)
      generalize S1 = S at h hd
      refine lv_if_eq (tgt := 71) hx hb dX10_knownIn_54 (by decide) (fun c7 => ?_) (fun c7 => ?_)
      · rw [if_pos c7] at h
        exact sBX10_knownIn_71 C hr hr14 hr32  hd (lv_sub hl [0, 1, 2, 3, 4, 6] rfl) h
      · rw [if_neg c7] at h
        refine lv_aload_n hx hb dX10_knownIn_57 rfl (lv_at hl 0 rfl) ?_
        refine gX10_81 C hd (rfl : kd 142 = 10) (q := 158) rfl dX10_knownIn_58 (fun y8 => ?_)
        refine lv_iload hx hb dX10_knownIn_61 (lv_at hl 6 rfl) ?_
        refine R_iald C hd y8 h dX10_knownIn_63 (fun x9 h => ?_)
        refine lv_iload_n hx hb dX10_knownIn_64 rfl (lv_at hl 2 rfl) ?_
        obtain ⟨x10, S1, hc, h⟩ := bd_some h
        refine R_cSi C hd (ccX10_isOf l G  hc) kX10_298  hl.1 ⟨by decide, by decide⟩ rfl rfl (Nat.le_of_ble_eq_true rfl) dX10_knownIn_65 ⟨Nat.zero_le _, Nat.zero_le _⟩ (fun H locs hd => ?_)
        generalize S1 = S at h hd
        refine lv_if_eq (tgt := 75) hx hb dX10_knownIn_68 (by decide) (fun c11 => ?_) (fun c11 => ?_)
        · rw [if_pos c11] at h
          exact sBX10_knownIn_75 C hr hr14 hr32  hd (lv_sub hl [0, 1, 2, 3, 4, 6] rfl) h
        · rw [if_neg c11] at h
          exact sBX10_knownIn_71 C hr hr14 hr32  hd (lv_sub hl [0, 1, 2, 3, 4, 6] rfl) h
def LX10_knownIn_32 (r14 : Int32 → Int32 → Int32 → Int32 → St → Option (Int32 × St)) : Nat → Int32 → Int32 → Int32 → Int32 → Int32 → Int32 → St → Option (Int32 × St)
  | 0 => fun _ _ _ _ _ _ _ => none
  | n + 1 => fun l1 l2 l3 l4 l5 l6 S => KX10_knownIn_32 r14 (LX10_knownIn_32 r14 n) l1 l2 l3 l4 l5 l6 S
theorem sLX10_knownIn_32 (C : Cx p s m args meth c cX10_knownIn 7 RX10 G) (hr : meth.sig.returnType = some .int) {r14 : Int32 → Int32 → Int32 → Int32 → St → Option (Int32 × St)} (hr14 : ∀ (l1 : Int32) (l2 : Int32) (l3 : Int32) (l4 : Int32) (S : St) (res : (Int32 × St)) (H : Heap) (locs : List Loc) (ls : Array Slot), Dy G S s H locs → lv_has ls 7 [(0, .ref (gR G 142)), (1, .int l1), (2, .int l2), (3, .int l3), (4, .int l4)] → r14 l1 l2 l3 l4 S = some res → W p l e (rmL 8 0 0) s m args below meth c H locs 0 0 (MQ below (QI G res.1 res.2) args s 0 0 (Ab G)) (F0 m 14 ls [])) : ∀ (n : Nat) (l1 : Int32) (l2 : Int32) (l3 : Int32) (l4 : Int32) (l5 : Int32) (l6 : Int32) (S : St) (res : (Int32 × St)) (H : Heap) (locs : List Loc) (ls : Array Slot), Dy G S s H locs → lv_has ls 7 [(0, .ref (gR G 142)), (1, .int l1), (2, .int l2), (3, .int l3), (4, .int l4), (5, .int l5), (6, .int l6)] → LX10_knownIn_32 r14 n l1 l2 l3 l4 l5 l6 S = some res → W p l e (rmL 8 0 0) s m args below meth c H locs 0 0 (MQ below (QI G res.1 res.2) args s 0 0 (Ab G)) (F0 m 32 ls []) := by
  intro n
  induction n with
  | zero => intro l1 l2 l3 l4 l5 l6 S res H locs ls  hd hl h; cases h
  | succ n ih =>
    intro l1 l2 l3 l4 l5 l6 S res H locs ls  hd hl h
    exact sKX10_knownIn_32 C hr hr14 ih  hd hl h
def KX10_knownIn_14 (r14 : Int32 → Int32 → Int32 → Int32 → St → Option (Int32 × St)) (l1 : Int32) (l2 : Int32) (l3 : Int32) (l4 : Int32) (S : St) : Option (Int32 × St) :=
  (if 60 < l4 then (BX10_knownIn_102 l3 S) else (if l3 = (-1) then (LX10_knownIn_32 r14 FU l1 l2 l3 l4 1 0 S) else (BX10_knownIn_102 l3 S)))
set_option maxHeartbeats 4000000 in
set_option maxRecDepth 20000 in
theorem sKX10_knownIn_14 (C : Cx p s m args meth c cX10_knownIn 7 RX10 G) (hr : meth.sig.returnType = some .int) {r14 : Int32 → Int32 → Int32 → Int32 → St → Option (Int32 × St)} (hr14 : ∀ (l1 : Int32) (l2 : Int32) (l3 : Int32) (l4 : Int32) (S : St) (res : (Int32 × St)) (H : Heap) (locs : List Loc) (ls : Array Slot), Dy G S s H locs → lv_has ls 7 [(0, .ref (gR G 142)), (1, .int l1), (2, .int l2), (3, .int l3), (4, .int l4)] → r14 l1 l2 l3 l4 S = some res → W p l e (rmL 8 0 0) s m args below meth c H locs 0 0 (MQ below (QI G res.1 res.2) args s 0 0 (Ab G)) (F0 m 14 ls [])) {l1 : Int32} {l2 : Int32} {l3 : Int32} {l4 : Int32} {S : St} {res : (Int32 × St)} {H : Heap} {locs : List Loc} {ls : Array Slot}  (hd : Dy G S s H locs) (hl : lv_has ls 7 [(0, .ref (gR G 142)), (1, .int l1), (2, .int l2), (3, .int l3), (4, .int l4)]) (h : KX10_knownIn_14 r14 l1 l2 l3 l4 S = some res) : W p l e (rmL 8 0 0) s m args below meth c H locs 0 0 (MQ below (QI G res.1 res.2) args s 0 0 (Ab G)) (F0 m 14 ls []) := by
  unfold KX10_knownIn_14 at h
  have hx := C.1.1
  have hb := C.1.2.1
  refine lv_iload hx hb dX10_knownIn_14 (lv_at hl 4 rfl) ?_
  refine lv_bipush (v := 60) hx hb dX10_knownIn_16 (by decide) ?_
  refine lv_icmp_gt (tgt := 102) hx hb dX10_knownIn_18 (by decide) (fun c1 => ?_) (fun c1 => ?_)
  · rw [if_pos c1] at h
    exact sBX10_knownIn_102 C hr  hd (lv_sub hl [0, 3] rfl) h
  · rw [if_neg c1] at h
    refine lv_iload_n hx hb dX10_knownIn_21 rfl (lv_at hl 3 rfl) ?_
    refine lv_iconst (v := -1) hx hb dX10_knownIn_22 (by decide) ?_
    refine lv_icmp_ne (tgt := 102) hx hb dX10_knownIn_23 (by decide) (fun c2 => ?_) (fun c2 => ?_)
    · rw [if_neg c2] at h
      exact sBX10_knownIn_102 C hr  hd (lv_sub hl [0, 3] rfl) h
    · rw [if_pos c2] at h
      refine lv_iconst (v := 1) hx hb dX10_knownIn_26 (by decide) ?_
      refine lv_istore (lv' := [(5, .int 1), (0, .ref (gR G 142)), (1, .int l1), (2, .int l2), (3, .int l3), (4, .int l4)]) hx hb dX10_knownIn_27 hl (by decide) rfl (fun ls hl => ?_)
      refine lv_iconst (v := 0) hx hb dX10_knownIn_29 (by decide) ?_
      refine lv_istore (lv' := [(6, .int 0), (5, .int 1), (0, .ref (gR G 142)), (1, .int l1), (2, .int l2), (3, .int l3), (4, .int l4)]) hx hb dX10_knownIn_30 hl (by decide) rfl (fun ls hl => ?_)
      exact sLX10_knownIn_32 C hr hr14 _ l1 l2 l3 l4 1 0 _ _ _ _ _  hd (lv_sub hl [2, 3, 4, 5, 6, 1, 0] rfl) h
def LX10_knownIn_14 : Nat → Int32 → Int32 → Int32 → Int32 → St → Option (Int32 × St)
  | 0 => fun _ _ _ _ _ => none
  | n + 1 => fun l1 l2 l3 l4 S => KX10_knownIn_14 (LX10_knownIn_14 n) l1 l2 l3 l4 S
theorem sLX10_knownIn_14 (C : Cx p s m args meth c cX10_knownIn 7 RX10 G) (hr : meth.sig.returnType = some .int) : ∀ (n : Nat) (l1 : Int32) (l2 : Int32) (l3 : Int32) (l4 : Int32) (S : St) (res : (Int32 × St)) (H : Heap) (locs : List Loc) (ls : Array Slot), Dy G S s H locs → lv_has ls 7 [(0, .ref (gR G 142)), (1, .int l1), (2, .int l2), (3, .int l3), (4, .int l4)] → LX10_knownIn_14 n l1 l2 l3 l4 S = some res → W p l e (rmL 8 0 0) s m args below meth c H locs 0 0 (MQ below (QI G res.1 res.2) args s 0 0 (Ab G)) (F0 m 14 ls []) := by
  intro n
  induction n with
  | zero => intro l1 l2 l3 l4 S res H locs ls  hd hl h; cases h
  | succ n ih =>
    intro l1 l2 l3 l4 S res H locs ls  hd hl h
    exact sKX10_knownIn_14 C hr ih  hd hl h
def fX10_knownIn (a1 : Int32) (a2 : Int32) (S : St) : Option (Int32 × St) :=
  bv (fX10_pack 169 0 S) fun S => (LX10_knownIn_14 FU a1 a2 ((-1)) 0 S)
set_option maxHeartbeats 4000000 in
set_option maxRecDepth 20000 in
theorem sfX10_knownIn (C : Cx p s m args meth c cX10_knownIn 7 RX10 G) (hr : meth.sig.returnType = some .int) {a1 : Int32} {a2 : Int32} {S : St} {res : (Int32 × St)} {H : Heap} {locs : List Loc} {ls : Array Slot}  (hd : Dy G S s H locs) (hl : lv_has ls 7 [(0, .ref (gR G 142)), (1, .int a1), (2, .int a2)]) (h : fX10_knownIn a1 a2 S = some res) : W p l e (rmL 8 0 0) s m args below meth c H locs 0 0 (MQ below (QI G res.1 res.2) args s 0 0 (Ab G)) (F0 m 0 ls []) := by
  unfold fX10_knownIn at h
  have hx := C.1.1
  have hb := C.1.2.1
  refine lv_aload_n hx hb dX10_knownIn_0 rfl (lv_at hl 0 rfl) ?_
  refine lv_aload_n hx hb dX10_knownIn_1 rfl (lv_at hl 0 rfl) ?_
  refine gX10_116 C hd (rfl : kd 142 = 10) (q := 169) rfl dX10_knownIn_2 (fun y1 => ?_)
  refine lv_iconst (v := 0) hx hb dX10_knownIn_5 (by decide) ?_
  obtain ⟨S1, hc, h⟩ := bv_some h
  refine R_cVv C hd (ccX10_pack l G y1 hc) kX10_406 rfl (by decide) (rfl : kd 142 = 10) hl.1 ⟨by decide, by decide⟩ rfl rfl (Nat.le_of_ble_eq_true rfl) dX10_knownIn_6 ⟨Nat.zero_le _, Nat.zero_le _⟩ (fun H locs hd => ?_)
  generalize S1 = S at h hd
  refine lv_iconst (v := -1) hx hb dX10_knownIn_9 (by decide) ?_
  refine lv_istore_n (lv' := [(3, .int ((-1))), (0, .ref (gR G 142)), (1, .int a1), (2, .int a2)]) hx hb dX10_knownIn_10 rfl hl (by decide) rfl (fun ls hl => ?_)
  refine lv_iconst (v := 0) hx hb dX10_knownIn_11 (by decide) ?_
  refine lv_istore (lv' := [(4, .int 0), (3, .int ((-1))), (0, .ref (gR G 142)), (1, .int a1), (2, .int a2)]) hx hb dX10_knownIn_12 hl (by decide) rfl (fun ls hl => ?_)
  exact sLX10_knownIn_14 C hr _ a1 a2 ((-1)) 0 _ _ _ _ _  hd (lv_sub hl [2, 3, 4, 1, 0] rfl) h
set_option maxRecDepth 20000 in
theorem ccX10_knownIn (l : Launch) (G : Gt) {a1 : Int32} {a2 : Int32} {S : St} {res : (Int32 × St)}  (h : fX10_knownIn a1 a2 S = some res) : Met l yX10_knownIn (wm yX10_knownIn cX10_knownIn 7 (some .int)) (rmL 8 0 0) (PcW G S [.ref (gR G 142), .int a1, .int a2]) (QI G res.1 res.2) 0 0 (Ab G) := by
  refine Met.ofW (cc := cX10_knownIn) (maxL := 7) (ret := (some .int)) (by decide) rfl ?_
  intro p e s m args below meth c s₁ B hml hv
  obtain ⟨rfl, hK, hP⟩ := hv
  have C : Cx p s m _ meth c cX10_knownIn 7 RX10 G := ⟨⟨B.exec, B.bytes, hml, findClass_of_methodNamed B.named, fun w hw => atoms_spec (ws := wm yX10_knownIn cX10_knownIn 7 (some .int)) B.pre w (List.mem_cons_of_mem _ hw)⟩, B.notSynchronized, hK⟩
  have hl := lv_entry ([.ref (gR G 142), .int a1, .int a2]) (n := 7) (Nat.le_of_ble_eq_true rfl)
  rw [lg_entry_eq]
  generalize (lg_sl ([.ref (gR G 142), .int a1, .int a2]) ++ List.replicate (7 - (lg_sl ([.ref (gR G 142), .int a1, .int a2])).length) Slot.unset).toArray = ls at hl ⊢
  exact sfX10_knownIn C B.returns  ⟨hP, va_S.rf⟩ hl h
def BX10_learnt_32  (S : St) : Option (Int32 × St) :=
  bd (fX10_fail 1 S) fun x1 S => ri x1 S
set_option maxHeartbeats 4000000 in
set_option maxRecDepth 20000 in
theorem sBX10_learnt_32 (C : Cx p s m args meth c cX10_learnt 3 RX10 G) (hr : meth.sig.returnType = some .int)  {S : St} {res : (Int32 × St)} {H : Heap} {locs : List Loc} {ls : Array Slot}  (hd : Dy G S s H locs) (hl : lv_has ls 3 [(0, .ref (gR G 142))]) (h : BX10_learnt_32  S = some res) : W p l e (rmL 9 0 0) s m args below meth c H locs 0 0 (MQ below (QI G res.1 res.2) args s 0 0 (Ab G)) (F0 m 32 ls []) := by
  unfold BX10_learnt_32 at h
  have hx := C.1.1
  have hb := C.1.2.1
  refine lv_aload_n hx hb dX10_learnt_32 rfl (lv_at hl 0 rfl) ?_
  refine lv_iconst (v := 1) hx hb dX10_learnt_33 (by decide) ?_
  obtain ⟨x1, S1, hc, h⟩ := bd_some h
  refine R_cVi C hd (ccX10_fail l G  hc) kX10_325 rfl (by decide) (rfl : kd 142 = 10) hl.1 ⟨by decide, by decide⟩ rfl rfl (Nat.le_of_ble_eq_true rfl) dX10_learnt_34 ⟨Nat.zero_le _, Nat.zero_le _⟩ (fun H locs hd => ?_)
  generalize S1 = S at h hd
  exact R_iret C hr hd h dX10_learnt_37
def fX10_learnt (a1 : Int32) (a2 : Int32) (S : St) : Option (Int32 × St) :=
  pf S 142 3 0 fun S => bd (fX10_isSinger a1 S) fun x1 S => (if x1 = 0 then (BX10_learnt_32  S) else bd (fX10_isField a2 S) fun x3 S => (if x3 = 0 then (BX10_learnt_32  S) else bd (fX10_knownIn ((1 : Int32) <<< (a1 &&& 31)) a2 S) fun x5 S => ri x5 S))
set_option maxHeartbeats 4000000 in
set_option maxRecDepth 20000 in
theorem sfX10_learnt (C : Cx p s m args meth c cX10_learnt 3 RX10 G) (hr : meth.sig.returnType = some .int) {a1 : Int32} {a2 : Int32} {S : St} {res : (Int32 × St)} {H : Heap} {locs : List Loc} {ls : Array Slot}  (hd : Dy G S s H locs) (hl : lv_has ls 3 [(0, .ref (gR G 142)), (1, .int a1), (2, .int a2)]) (h : fX10_learnt a1 a2 S = some res) : W p l e (rmL 9 0 0) s m args below meth c H locs 0 0 (MQ below (QI G res.1 res.2) args s 0 0 (Ab G)) (F0 m 0 ls []) := by
  unfold fX10_learnt at h
  have hx := C.1.1
  have hb := C.1.2.1
  refine lv_aload_n hx hb dX10_learnt_0 rfl (lv_at hl 0 rfl) ?_
  refine lv_iconst (v := 0) hx hb dX10_learnt_1 (by decide) ?_
  refine pX10_167 C hd (rfl : kd 142 = 10) h dX10_learnt_2 (fun S H locs hd h => ?_)
  refine lv_aload_n hx hb dX10_learnt_5 rfl (lv_at hl 0 rfl) ?_
  refine lv_iload_n hx hb dX10_learnt_6 rfl (lv_at hl 1 rfl) ?_
  obtain ⟨x1, S1, hc, h⟩ := bd_some h
  refine R_cVi C hd (ccX10_isSinger l G  hc) kX10_400 rfl (by decide) (rfl : kd 142 = 10) hl.1 ⟨by decide, by decide⟩ rfl rfl (Nat.le_of_ble_eq_true rfl) dX10_learnt_7 ⟨Nat.zero_le _, Nat.zero_le _⟩ (fun H locs hd => ?_)
  generalize S1 = S at h hd
  refine lv_if_eq (tgt := 32) hx hb dX10_learnt_10 (by decide) (fun c2 => ?_) (fun c2 => ?_)
  · rw [if_pos c2] at h
    exact sBX10_learnt_32 C hr  hd (lv_sub hl [0] rfl) h
  · rw [if_neg c2] at h
    refine lv_aload_n hx hb dX10_learnt_13 rfl (lv_at hl 0 rfl) ?_
    refine lv_iload_n hx hb dX10_learnt_14 rfl (lv_at hl 2 rfl) ?_
    obtain ⟨x3, S1, hc, h⟩ := bd_some h
    refine R_cVi C hd (ccX10_isField l G  hc) kX10_392 rfl (by decide) (rfl : kd 142 = 10) hl.1 ⟨by decide, by decide⟩ rfl rfl (Nat.le_of_ble_eq_true rfl) dX10_learnt_15 ⟨Nat.zero_le _, Nat.zero_le _⟩ (fun H locs hd => ?_)
    generalize S1 = S at h hd
    refine lv_if_eq (tgt := 32) hx hb dX10_learnt_18 (by decide) (fun c4 => ?_) (fun c4 => ?_)
    · rw [if_pos c4] at h
      exact sBX10_learnt_32 C hr  hd (lv_sub hl [0] rfl) h
    · rw [if_neg c4] at h
      refine lv_aload_n hx hb dX10_learnt_21 rfl (lv_at hl 0 rfl) ?_
      refine lv_iconst (v := 1) hx hb dX10_learnt_22 (by decide) ?_
      refine lv_iload_n hx hb dX10_learnt_23 rfl (lv_at hl 1 rfl) ?_
      refine lv_ishl hx hb dX10_learnt_24 ?_
      refine lv_iload_n hx hb dX10_learnt_25 rfl (lv_at hl 2 rfl) ?_
      obtain ⟨x5, S1, hc, h⟩ := bd_some h
      refine R_cVi C hd (ccX10_knownIn l G  hc) kX10_435 rfl (by decide) (rfl : kd 142 = 10) hl.1 ⟨by decide, by decide⟩ rfl rfl (Nat.le_of_ble_eq_true rfl) dX10_learnt_26 ⟨Nat.zero_le _, Nat.zero_le _⟩ (fun H locs hd => ?_)
      generalize S1 = S at h hd
      refine lv_goto (tgt := 37) hx hb dX10_learnt_29 (by decide) ?_
      exact R_iret C hr hd h dX10_learnt_37
set_option maxRecDepth 20000 in
theorem ccX10_learnt (l : Launch) (G : Gt) {a1 : Int32} {a2 : Int32} {S : St} {res : (Int32 × St)}  (h : fX10_learnt a1 a2 S = some res) : Met l yX10_learnt (wm yX10_learnt cX10_learnt 3 (some .int)) (rmL 9 0 0) (PcW G S [.ref (gR G 142), .int a1, .int a2]) (QI G res.1 res.2) 0 0 (Ab G) := by
  refine Met.ofW (cc := cX10_learnt) (maxL := 3) (ret := (some .int)) (by decide) rfl ?_
  intro p e s m args below meth c s₁ B hml hv
  obtain ⟨rfl, hK, hP⟩ := hv
  have C : Cx p s m _ meth c cX10_learnt 3 RX10 G := ⟨⟨B.exec, B.bytes, hml, findClass_of_methodNamed B.named, fun w hw => atoms_spec (ws := wm yX10_learnt cX10_learnt 3 (some .int)) B.pre w (List.mem_cons_of_mem _ hw)⟩, B.notSynchronized, hK⟩
  have hl := lv_entry ([.ref (gR G 142), .int a1, .int a2]) (n := 3) (Nat.le_of_ble_eq_true rfl)
  rw [lg_entry_eq]
  generalize (lg_sl ([.ref (gR G 142), .int a1, .int a2]) ++ List.replicate (3 - (lg_sl ([.ref (gR G 142), .int a1, .int a2])).length) Slot.unset).toArray = ls at hl ⊢
  exact sfX10_learnt C B.returns  ⟨hP, va_S.rf⟩ hl h
def fX10_purse (a1 : Int32) (a2 : Int32) (S : St) : Option (Int32 × St) :=
  pf S 142 3 0 fun S => bd (fX10_isSinger a1 S) fun x1 S => (if x1 = 0 then bd (fX10_fail 1 S) fun x10 S => ri x10 S else bd (fX10_isIn (a2.toInt64) 0 60 S) fun x3 S => (if x3 = 0 then bd (fX10_fail 2 S) fun x9 S => ri x9 S else bv (fX10_pack 169 0 S) fun S => bv (fX10_goOn a2 S) fun S => rd S 159 a1 fun x7 => bv (fX10_unpack 169 0 S) fun S => ri x7 S))
set_option maxHeartbeats 4000000 in
set_option maxRecDepth 20000 in
theorem sfX10_purse (C : Cx p s m args meth c cX10_purse 4 RX10 G) (hr : meth.sig.returnType = some .int) {a1 : Int32} {a2 : Int32} {S : St} {res : (Int32 × St)} {H : Heap} {locs : List Loc} {ls : Array Slot}  (hd : Dy G S s H locs) (hl : lv_has ls 4 [(0, .ref (gR G 142)), (1, .int a1), (2, .int a2)]) (h : fX10_purse a1 a2 S = some res) : W p l e (rmL 9 0 0) s m args below meth c H locs 0 0 (MQ below (QI G res.1 res.2) args s 0 0 (Ab G)) (F0 m 0 ls []) := by
  unfold fX10_purse at h
  have hx := C.1.1
  have hb := C.1.2.1
  refine lv_aload_n hx hb dX10_purse_0 rfl (lv_at hl 0 rfl) ?_
  refine lv_iconst (v := 0) hx hb dX10_purse_1 (by decide) ?_
  refine pX10_167 C hd (rfl : kd 142 = 10) h dX10_purse_2 (fun S H locs hd h => ?_)
  refine lv_aload_n hx hb dX10_purse_5 rfl (lv_at hl 0 rfl) ?_
  refine lv_iload_n hx hb dX10_purse_6 rfl (lv_at hl 1 rfl) ?_
  obtain ⟨x1, S1, hc, h⟩ := bd_some h
  refine R_cVi C hd (ccX10_isSinger l G  hc) kX10_400 rfl (by decide) (rfl : kd 142 = 10) hl.1 ⟨by decide, by decide⟩ rfl rfl (Nat.le_of_ble_eq_true rfl) dX10_purse_7 ⟨Nat.zero_le _, Nat.zero_le _⟩ (fun H locs hd => ?_)
  generalize S1 = S at h hd
  refine lv_if_ne (tgt := 19) hx hb dX10_purse_10 (by decide) (fun c2 => ?_) (fun c2 => ?_)
  · rw [if_neg c2] at h
    refine lv_iload_n hx hb dX10_purse_19 rfl (lv_at hl 2 rfl) ?_
    refine lv_i2l hx hb dX10_purse_20 rfl ?_
    refine lv_lconst (v := 0) hx hb dX10_purse_21 rfl ?_
    refine lv_ldc2 hx hb C.1.2.2.2.1 (C.1.2.2.2.2 _ kcX10_433) dX10_purse_22 ?_
    obtain ⟨x3, S1, hc, h⟩ := bd_some h
    refine R_cSi C hd (ccX10_isIn l G  hc) kX10_170  hl.1 ⟨by decide, by decide⟩ rfl rfl (Nat.le_of_ble_eq_true rfl) dX10_purse_25 ⟨Nat.zero_le _, Nat.zero_le _⟩ (fun H locs hd => ?_)
    generalize S1 = S at h hd
    refine lv_if_ne (tgt := 37) hx hb dX10_purse_28 (by decide) (fun c4 => ?_) (fun c4 => ?_)
    · rw [if_neg c4] at h
      refine lv_aload_n hx hb dX10_purse_37 rfl (lv_at hl 0 rfl) ?_
      refine lv_aload_n hx hb dX10_purse_38 rfl (lv_at hl 0 rfl) ?_
      refine gX10_116 C hd (rfl : kd 142 = 10) (q := 169) rfl dX10_purse_39 (fun y5 => ?_)
      refine lv_iconst (v := 0) hx hb dX10_purse_42 (by decide) ?_
      obtain ⟨S1, hc, h⟩ := bv_some h
      refine R_cVv C hd (ccX10_pack l G y5 hc) kX10_406 rfl (by decide) (rfl : kd 142 = 10) hl.1 ⟨by decide, by decide⟩ rfl rfl (Nat.le_of_ble_eq_true rfl) dX10_purse_43 ⟨Nat.zero_le _, Nat.zero_le _⟩ (fun H locs hd => ?_)
      generalize S1 = S at h hd
      refine lv_aload_n hx hb dX10_purse_46 rfl (lv_at hl 0 rfl) ?_
      refine lv_iload_n hx hb dX10_purse_47 rfl (lv_at hl 2 rfl) ?_
      obtain ⟨S1, hc, h⟩ := bv_some h
      refine R_cVv C hd (ccX10_goOn l G  hc) kX10_418 rfl (by decide) (rfl : kd 142 = 10) hl.1 ⟨by decide, by decide⟩ rfl rfl (Nat.le_of_ble_eq_true rfl) dX10_purse_48 ⟨Nat.zero_le _, Nat.zero_le _⟩ (fun H locs hd => ?_)
      generalize S1 = S at h hd
      refine lv_aload_n hx hb dX10_purse_51 rfl (lv_at hl 0 rfl) ?_
      refine gX10_83 C hd (rfl : kd 142 = 10) (q := 159) rfl dX10_purse_52 (fun y6 => ?_)
      refine lv_iload_n hx hb dX10_purse_55 rfl (lv_at hl 1 rfl) ?_
      refine R_iald C hd y6 h dX10_purse_56 (fun x7 h => ?_)
      refine lv_istore_n (lv' := [(3, .int x7), (0, .ref (gR G 142)), (1, .int a1), (2, .int a2)]) hx hb dX10_purse_57 rfl hl (by decide) rfl (fun ls hl => ?_)
      refine lv_aload_n hx hb dX10_purse_58 rfl (lv_at hl 1 rfl) ?_
      refine lv_aload_n hx hb dX10_purse_59 rfl (lv_at hl 1 rfl) ?_
      refine gX10_116 C hd (rfl : kd 142 = 10) (q := 169) rfl dX10_purse_60 (fun y8 => ?_)
      refine lv_iconst (v := 0) hx hb dX10_purse_63 (by decide) ?_
      obtain ⟨S1, hc, h⟩ := bv_some h
      refine R_cVv C hd (ccX10_unpack l G y8 hc) kX10_430 rfl (by decide) (rfl : kd 142 = 10) hl.1 ⟨by decide, by decide⟩ rfl rfl (Nat.le_of_ble_eq_true rfl) dX10_purse_64 ⟨Nat.zero_le _, Nat.zero_le _⟩ (fun H locs hd => ?_)
      generalize S1 = S at h hd
      refine lv_iload_n hx hb dX10_purse_67 rfl (lv_at hl 0 rfl) ?_
      exact R_iret C hr hd h dX10_purse_68
    · rw [if_pos c4] at h
      refine lv_aload_n hx hb dX10_purse_31 rfl (lv_at hl 0 rfl) ?_
      refine lv_iconst (v := 2) hx hb dX10_purse_32 (by decide) ?_
      obtain ⟨x9, S1, hc, h⟩ := bd_some h
      refine R_cVi C hd (ccX10_fail l G  hc) kX10_325 rfl (by decide) (rfl : kd 142 = 10) hl.1 ⟨by decide, by decide⟩ rfl rfl (Nat.le_of_ble_eq_true rfl) dX10_purse_33 ⟨Nat.zero_le _, Nat.zero_le _⟩ (fun H locs hd => ?_)
      generalize S1 = S at h hd
      exact R_iret C hr hd h dX10_purse_36
  · rw [if_pos c2] at h
    refine lv_aload_n hx hb dX10_purse_13 rfl (lv_at hl 0 rfl) ?_
    refine lv_iconst (v := 1) hx hb dX10_purse_14 (by decide) ?_
    obtain ⟨x10, S1, hc, h⟩ := bd_some h
    refine R_cVi C hd (ccX10_fail l G  hc) kX10_325 rfl (by decide) (rfl : kd 142 = 10) hl.1 ⟨by decide, by decide⟩ rfl rfl (Nat.le_of_ble_eq_true rfl) dX10_purse_15 ⟨Nat.zero_le _, Nat.zero_le _⟩ (fun H locs hd => ?_)
    generalize S1 = S at h hd
    exact R_iret C hr hd h dX10_purse_18
set_option maxRecDepth 20000 in
theorem ccX10_purse (l : Launch) (G : Gt) {a1 : Int32} {a2 : Int32} {S : St} {res : (Int32 × St)}  (h : fX10_purse a1 a2 S = some res) : Met l yX10_purse (wm yX10_purse cX10_purse 4 (some .int)) (rmL 9 0 0) (PcW G S [.ref (gR G 142), .int a1, .int a2]) (QI G res.1 res.2) 0 0 (Ab G) := by
  refine Met.ofW (cc := cX10_purse) (maxL := 4) (ret := (some .int)) (by decide) rfl ?_
  intro p e s m args below meth c s₁ B hml hv
  obtain ⟨rfl, hK, hP⟩ := hv
  have C : Cx p s m _ meth c cX10_purse 4 RX10 G := ⟨⟨B.exec, B.bytes, hml, findClass_of_methodNamed B.named, fun w hw => atoms_spec (ws := wm yX10_purse cX10_purse 4 (some .int)) B.pre w (List.mem_cons_of_mem _ hw)⟩, B.notSynchronized, hK⟩
  have hl := lv_entry ([.ref (gR G 142), .int a1, .int a2]) (n := 4) (Nat.le_of_ble_eq_true rfl)
  rw [lg_entry_eq]
  generalize (lg_sl ([.ref (gR G 142), .int a1, .int a2]) ++ List.replicate (4 - (lg_sl ([.ref (gR G 142), .int a1, .int a2])).length) Slot.unset).toArray = ls at hl ⊢
  exact sfX10_purse C B.returns  ⟨hP, va_S.rf⟩ hl h
def BX10_trespasses_22  (S : St) : Option (Int32 × St) :=
  bd (fX10_fail 1 S) fun x1 S => ri x1 S
set_option maxHeartbeats 4000000 in
set_option maxRecDepth 20000 in
theorem sBX10_trespasses_22 (C : Cx p s m args meth c cX10_trespasses 7 RX10 G) (hr : meth.sig.returnType = some .int)  {S : St} {res : (Int32 × St)} {H : Heap} {locs : List Loc} {ls : Array Slot}  (hd : Dy G S s H locs) (hl : lv_has ls 7 [(0, .ref (gR G 142))]) (h : BX10_trespasses_22  S = some res) : W p l e (rmL 8 0 0) s m args below meth c H locs 0 0 (MQ below (QI G res.1 res.2) args s 0 0 (Ab G)) (F0 m 22 ls []) := by
  unfold BX10_trespasses_22 at h
  have hx := C.1.1
  have hb := C.1.2.1
  refine lv_aload_n hx hb dX10_trespasses_22 rfl (lv_at hl 0 rfl) ?_
  refine lv_iconst (v := 1) hx hb dX10_trespasses_23 (by decide) ?_
  obtain ⟨x1, S1, hc, h⟩ := bd_some h
  refine R_cVi C hd (ccX10_fail l G  hc) kX10_325 rfl (by decide) (rfl : kd 142 = 10) hl.1 ⟨by decide, by decide⟩ rfl rfl (Nat.le_of_ble_eq_true rfl) dX10_trespasses_24 ⟨Nat.zero_le _, Nat.zero_le _⟩ (fun H locs hd => ?_)
  generalize S1 = S at h hd
  exact R_iret C hr hd h dX10_trespasses_27
def BX10_trespasses_132 (r61 : Int32 → Int32 → Int32 → Int32 → Int32 → St → Option (Int32 × St)) (r74 : Int32 → Int32 → Int32 → Int32 → Int32 → Int32 → St → Option (Int32 × St)) (l1 : Int32) (l2 : Int32) (l3 : Int32) (l5 : Int32) (l6 : Int32) (s0 : Int32) (s1 : Int32) (S : St) : Option (Int32 × St) :=
  vl (s0 + s1) fun x1 => vl (l6 + 1) fun x2 => (r74 l1 l2 l3 x1 l5 x2 S)
set_option maxHeartbeats 4000000 in
set_option maxRecDepth 20000 in
theorem sBX10_trespasses_132 (C : Cx p s m args meth c cX10_trespasses 7 RX10 G) (hr : meth.sig.returnType = some .int) {r61 : Int32 → Int32 → Int32 → Int32 → Int32 → St → Option (Int32 × St)} {r74 : Int32 → Int32 → Int32 → Int32 → Int32 → Int32 → St → Option (Int32 × St)} (hr61 : ∀ (l1 : Int32) (l2 : Int32) (l3 : Int32) (l4 : Int32) (l5 : Int32) (S : St) (res : (Int32 × St)) (H : Heap) (locs : List Loc) (ls : Array Slot), Dy G S s H locs → lv_has ls 7 [(0, .ref (gR G 142)), (1, .int l1), (2, .int l2), (3, .int l3), (4, .int l4), (5, .int l5)] → r61 l1 l2 l3 l4 l5 S = some res → W p l e (rmL 8 0 0) s m args below meth c H locs 0 0 (MQ below (QI G res.1 res.2) args s 0 0 (Ab G)) (F0 m 61 ls [])) (hr74 : ∀ (l1 : Int32) (l2 : Int32) (l3 : Int32) (l4 : Int32) (l5 : Int32) (l6 : Int32) (S : St) (res : (Int32 × St)) (H : Heap) (locs : List Loc) (ls : Array Slot), Dy G S s H locs → lv_has ls 7 [(0, .ref (gR G 142)), (1, .int l1), (2, .int l2), (3, .int l3), (4, .int l4), (5, .int l5), (6, .int l6)] → r74 l1 l2 l3 l4 l5 l6 S = some res → W p l e (rmL 8 0 0) s m args below meth c H locs 0 0 (MQ below (QI G res.1 res.2) args s 0 0 (Ab G)) (F0 m 74 ls [])) {l1 : Int32} {l2 : Int32} {l3 : Int32} {l5 : Int32} {l6 : Int32} {s0 : Int32} {s1 : Int32} {S : St} {res : (Int32 × St)} {H : Heap} {locs : List Loc} {ls : Array Slot}  (hd : Dy G S s H locs) (hl : lv_has ls 7 [(0, .ref (gR G 142)), (1, .int l1), (2, .int l2), (3, .int l3), (5, .int l5), (6, .int l6)]) (h : BX10_trespasses_132 r61 r74 l1 l2 l3 l5 l6 s0 s1 S = some res) : W p l e (rmL 8 0 0) s m args below meth c H locs 0 0 (MQ below (QI G res.1 res.2) args s 0 0 (Ab G)) (F0 m 132 ls [.int s1, .int s0]) := by
  unfold BX10_trespasses_132 at h
  have hx := C.1.1
  have hb := C.1.2.1
  refine lv_iadd hx hb dX10_trespasses_132 ?_
  refine R_vl h (fun x1 h => ?_)
  refine lv_istore (lv' := [(4, .int x1), (0, .ref (gR G 142)), (1, .int l1), (2, .int l2), (3, .int l3), (5, .int l5), (6, .int l6)]) hx hb dX10_trespasses_133 hl (by decide) rfl (fun ls hl => ?_)
  refine R_vi h (fun x2 ex2 h => ?_)
  refine lv_iinc (v := x2) (lv' := [(6, .int x2), (4, .int x1), (0, .ref (gR G 142)), (1, .int l1), (2, .int l2), (3, .int l3), (5, .int l5)]) hx hb dX10_trespasses_135 hl (k := 6) rfl (by rw [ex2]; rfl) (by decide) rfl (fun ls hl => ?_)
  refine lv_goto (tgt := 74) hx hb dX10_trespasses_138 (by decide) ?_
  exact hr74 l1 l2 l3 x1 l5 x2 _ _ _ _ _  hd (lv_sub hl [2, 3, 4, 5, 1, 6, 0] rfl) h
def BX10_trespasses_131 (r61 : Int32 → Int32 → Int32 → Int32 → Int32 → St → Option (Int32 × St)) (r74 : Int32 → Int32 → Int32 → Int32 → Int32 → Int32 → St → Option (Int32 × St)) (l1 : Int32) (l2 : Int32) (l3 : Int32) (l5 : Int32) (l6 : Int32) (s0 : Int32) (S : St) : Option (Int32 × St) :=
  (BX10_trespasses_132 r61 r74 l1 l2 l3 l5 l6 s0 0 S)
set_option maxHeartbeats 4000000 in
set_option maxRecDepth 20000 in
theorem sBX10_trespasses_131 (C : Cx p s m args meth c cX10_trespasses 7 RX10 G) (hr : meth.sig.returnType = some .int) {r61 : Int32 → Int32 → Int32 → Int32 → Int32 → St → Option (Int32 × St)} {r74 : Int32 → Int32 → Int32 → Int32 → Int32 → Int32 → St → Option (Int32 × St)} (hr61 : ∀ (l1 : Int32) (l2 : Int32) (l3 : Int32) (l4 : Int32) (l5 : Int32) (S : St) (res : (Int32 × St)) (H : Heap) (locs : List Loc) (ls : Array Slot), Dy G S s H locs → lv_has ls 7 [(0, .ref (gR G 142)), (1, .int l1), (2, .int l2), (3, .int l3), (4, .int l4), (5, .int l5)] → r61 l1 l2 l3 l4 l5 S = some res → W p l e (rmL 8 0 0) s m args below meth c H locs 0 0 (MQ below (QI G res.1 res.2) args s 0 0 (Ab G)) (F0 m 61 ls [])) (hr74 : ∀ (l1 : Int32) (l2 : Int32) (l3 : Int32) (l4 : Int32) (l5 : Int32) (l6 : Int32) (S : St) (res : (Int32 × St)) (H : Heap) (locs : List Loc) (ls : Array Slot), Dy G S s H locs → lv_has ls 7 [(0, .ref (gR G 142)), (1, .int l1), (2, .int l2), (3, .int l3), (4, .int l4), (5, .int l5), (6, .int l6)] → r74 l1 l2 l3 l4 l5 l6 S = some res → W p l e (rmL 8 0 0) s m args below meth c H locs 0 0 (MQ below (QI G res.1 res.2) args s 0 0 (Ab G)) (F0 m 74 ls [])) {l1 : Int32} {l2 : Int32} {l3 : Int32} {l5 : Int32} {l6 : Int32} {s0 : Int32} {S : St} {res : (Int32 × St)} {H : Heap} {locs : List Loc} {ls : Array Slot}  (hd : Dy G S s H locs) (hl : lv_has ls 7 [(0, .ref (gR G 142)), (1, .int l1), (2, .int l2), (3, .int l3), (5, .int l5), (6, .int l6)]) (h : BX10_trespasses_131 r61 r74 l1 l2 l3 l5 l6 s0 S = some res) : W p l e (rmL 8 0 0) s m args below meth c H locs 0 0 (MQ below (QI G res.1 res.2) args s 0 0 (Ab G)) (F0 m 131 ls [.int s0]) := by
  unfold BX10_trespasses_131 at h
  have hx := C.1.1
  have hb := C.1.2.1
  refine lv_iconst (v := 0) hx hb dX10_trespasses_131 (by decide) ?_
  exact sBX10_trespasses_132 C hr hr61 hr74  hd (lv_sub hl [0, 1, 2, 3, 4, 5] rfl) h
def BX10_trespasses_127 (r61 : Int32 → Int32 → Int32 → Int32 → Int32 → St → Option (Int32 × St)) (r74 : Int32 → Int32 → Int32 → Int32 → Int32 → Int32 → St → Option (Int32 × St)) (l1 : Int32) (l2 : Int32) (l3 : Int32) (l5 : Int32) (l6 : Int32) (s0 : Int32) (S : St) : Option (Int32 × St) :=
  (BX10_trespasses_132 r61 r74 l1 l2 l3 l5 l6 s0 1 S)
set_option maxHeartbeats 4000000 in
set_option maxRecDepth 20000 in
theorem sBX10_trespasses_127 (C : Cx p s m args meth c cX10_trespasses 7 RX10 G) (hr : meth.sig.returnType = some .int) {r61 : Int32 → Int32 → Int32 → Int32 → Int32 → St → Option (Int32 × St)} {r74 : Int32 → Int32 → Int32 → Int32 → Int32 → Int32 → St → Option (Int32 × St)} (hr61 : ∀ (l1 : Int32) (l2 : Int32) (l3 : Int32) (l4 : Int32) (l5 : Int32) (S : St) (res : (Int32 × St)) (H : Heap) (locs : List Loc) (ls : Array Slot), Dy G S s H locs → lv_has ls 7 [(0, .ref (gR G 142)), (1, .int l1), (2, .int l2), (3, .int l3), (4, .int l4), (5, .int l5)] → r61 l1 l2 l3 l4 l5 S = some res → W p l e (rmL 8 0 0) s m args below meth c H locs 0 0 (MQ below (QI G res.1 res.2) args s 0 0 (Ab G)) (F0 m 61 ls [])) (hr74 : ∀ (l1 : Int32) (l2 : Int32) (l3 : Int32) (l4 : Int32) (l5 : Int32) (l6 : Int32) (S : St) (res : (Int32 × St)) (H : Heap) (locs : List Loc) (ls : Array Slot), Dy G S s H locs → lv_has ls 7 [(0, .ref (gR G 142)), (1, .int l1), (2, .int l2), (3, .int l3), (4, .int l4), (5, .int l5), (6, .int l6)] → r74 l1 l2 l3 l4 l5 l6 S = some res → W p l e (rmL 8 0 0) s m args below meth c H locs 0 0 (MQ below (QI G res.1 res.2) args s 0 0 (Ab G)) (F0 m 74 ls [])) {l1 : Int32} {l2 : Int32} {l3 : Int32} {l5 : Int32} {l6 : Int32} {s0 : Int32} {S : St} {res : (Int32 × St)} {H : Heap} {locs : List Loc} {ls : Array Slot}  (hd : Dy G S s H locs) (hl : lv_has ls 7 [(0, .ref (gR G 142)), (1, .int l1), (2, .int l2), (3, .int l3), (5, .int l5), (6, .int l6)]) (h : BX10_trespasses_127 r61 r74 l1 l2 l3 l5 l6 s0 S = some res) : W p l e (rmL 8 0 0) s m args below meth c H locs 0 0 (MQ below (QI G res.1 res.2) args s 0 0 (Ab G)) (F0 m 127 ls [.int s0]) := by
  unfold BX10_trespasses_127 at h
  have hx := C.1.1
  have hb := C.1.2.1
  refine lv_iconst (v := 1) hx hb dX10_trespasses_127 (by decide) ?_
  refine lv_goto (tgt := 132) hx hb dX10_trespasses_128 (by decide) ?_
  exact sBX10_trespasses_132 C hr hr61 hr74  hd (lv_sub hl [0, 1, 2, 3, 4, 5] rfl) h
def KX10_trespasses_74 (r61 : Int32 → Int32 → Int32 → Int32 → Int32 → St → Option (Int32 × St)) (r74 : Int32 → Int32 → Int32 → Int32 → Int32 → Int32 → St → Option (Int32 × St)) (l1 : Int32) (l2 : Int32) (l3 : Int32) (l4 : Int32) (l5 : Int32) (l6 : Int32) (S : St) : Option (Int32 × St) :=
  rd S 145 2 fun x2 => (if x2 ≤ l6 then vl (l5 + 1) fun x4 => (r61 l1 l2 l3 l4 x4 S) else rd S 168 l6 fun x6 => (if x6 = (-1) then (BX10_trespasses_131 r61 r74 l1 l2 l3 l5 l6 l4 S) else (if l3 = 0 then (if l6 = l1 then (BX10_trespasses_127 r61 r74 l1 l2 l3 l5 l6 l4 S) else (BX10_trespasses_131 r61 r74 l1 l2 l3 l5 l6 l4 S)) else rd S 168 l6 fun x11 => rd S 162 x11 fun x12 => (if x12 = l1 then (BX10_trespasses_127 r61 r74 l1 l2 l3 l5 l6 l4 S) else (BX10_trespasses_131 r61 r74 l1 l2 l3 l5 l6 l4 S)))))
set_option maxHeartbeats 4000000 in
set_option maxRecDepth 20000 in
theorem sKX10_trespasses_74 (C : Cx p s m args meth c cX10_trespasses 7 RX10 G) (hr : meth.sig.returnType = some .int) {r61 : Int32 → Int32 → Int32 → Int32 → Int32 → St → Option (Int32 × St)} {r74 : Int32 → Int32 → Int32 → Int32 → Int32 → Int32 → St → Option (Int32 × St)} (hr61 : ∀ (l1 : Int32) (l2 : Int32) (l3 : Int32) (l4 : Int32) (l5 : Int32) (S : St) (res : (Int32 × St)) (H : Heap) (locs : List Loc) (ls : Array Slot), Dy G S s H locs → lv_has ls 7 [(0, .ref (gR G 142)), (1, .int l1), (2, .int l2), (3, .int l3), (4, .int l4), (5, .int l5)] → r61 l1 l2 l3 l4 l5 S = some res → W p l e (rmL 8 0 0) s m args below meth c H locs 0 0 (MQ below (QI G res.1 res.2) args s 0 0 (Ab G)) (F0 m 61 ls [])) (hr74 : ∀ (l1 : Int32) (l2 : Int32) (l3 : Int32) (l4 : Int32) (l5 : Int32) (l6 : Int32) (S : St) (res : (Int32 × St)) (H : Heap) (locs : List Loc) (ls : Array Slot), Dy G S s H locs → lv_has ls 7 [(0, .ref (gR G 142)), (1, .int l1), (2, .int l2), (3, .int l3), (4, .int l4), (5, .int l5), (6, .int l6)] → r74 l1 l2 l3 l4 l5 l6 S = some res → W p l e (rmL 8 0 0) s m args below meth c H locs 0 0 (MQ below (QI G res.1 res.2) args s 0 0 (Ab G)) (F0 m 74 ls [])) {l1 : Int32} {l2 : Int32} {l3 : Int32} {l4 : Int32} {l5 : Int32} {l6 : Int32} {S : St} {res : (Int32 × St)} {H : Heap} {locs : List Loc} {ls : Array Slot}  (hd : Dy G S s H locs) (hl : lv_has ls 7 [(0, .ref (gR G 142)), (1, .int l1), (2, .int l2), (3, .int l3), (4, .int l4), (5, .int l5), (6, .int l6)]) (h : KX10_trespasses_74 r61 r74 l1 l2 l3 l4 l5 l6 S = some res) : W p l e (rmL 8 0 0) s m args below meth c H locs 0 0 (MQ below (QI G res.1 res.2) args s 0 0 (Ab G)) (F0 m 74 ls []) := by
  unfold KX10_trespasses_74 at h
  have hx := C.1.1
  have hb := C.1.2.1
  refine lv_iload hx hb dX10_trespasses_74 (lv_at hl 6 rfl) ?_
  refine lv_aload_n hx hb dX10_trespasses_76 rfl (lv_at hl 0 rfl) ?_
  refine gX10_39 C hd (rfl : kd 142 = 10) (q := 145) rfl dX10_trespasses_77 (fun y1 => ?_)
  refine lv_iconst (v := 2) hx hb dX10_trespasses_80 (by decide) ?_
  refine R_iald C hd y1 h dX10_trespasses_81 (fun x2 h => ?_)
  refine lv_icmp_ge (tgt := 141) hx hb dX10_trespasses_82 (by decide) (fun c3 => ?_) (fun c3 => ?_)
  · rw [if_pos c3] at h
    refine R_vi h (fun x4 ex4 h => ?_)
    refine lv_iinc (v := x4) (lv' := [(5, .int x4), (0, .ref (gR G 142)), (1, .int l1), (2, .int l2), (3, .int l3), (4, .int l4), (6, .int l6)]) hx hb dX10_trespasses_141 hl (k := 5) rfl (by rw [ex4]; rfl) (by decide) rfl (fun ls hl => ?_)
    refine lv_goto (tgt := 61) hx hb dX10_trespasses_144 (by decide) ?_
    exact hr61 l1 l2 l3 l4 x4 _ _ _ _ _  hd (lv_sub hl [1, 2, 3, 4, 5, 0] rfl) h
  · rw [if_neg c3] at h
    refine lv_iload hx hb dX10_trespasses_85 (lv_at hl 4 rfl) ?_
    refine lv_aload_n hx hb dX10_trespasses_87 rfl (lv_at hl 0 rfl) ?_
    refine gX10_113 C hd (rfl : kd 142 = 10) (q := 168) rfl dX10_trespasses_88 (fun y5 => ?_)
    refine lv_iload hx hb dX10_trespasses_91 (lv_at hl 6 rfl) ?_
    refine R_iald C hd y5 h dX10_trespasses_93 (fun x6 h => ?_)
    refine lv_iconst (v := -1) hx hb dX10_trespasses_94 (by decide) ?_
    refine lv_icmp_eq (tgt := 131) hx hb dX10_trespasses_95 (by decide) (fun c7 => ?_) (fun c7 => ?_)
    · rw [if_pos c7] at h
      exact sBX10_trespasses_131 C hr hr61 hr74  hd (lv_sub hl [0, 1, 2, 3, 5, 6] rfl) h
    · rw [if_neg c7] at h
      refine lv_iload_n hx hb dX10_trespasses_98 rfl (lv_at hl 3 rfl) ?_
      refine lv_if_ne (tgt := 111) hx hb dX10_trespasses_99 (by decide) (fun c8 => ?_) (fun c8 => ?_)
      · rw [if_neg c8] at h
        refine lv_aload_n hx hb dX10_trespasses_111 rfl (lv_at hl 0 rfl) ?_
        refine gX10_92 C hd (rfl : kd 142 = 10) (q := 162) rfl dX10_trespasses_112 (fun y9 => ?_)
        refine lv_aload_n hx hb dX10_trespasses_115 rfl (lv_at hl 0 rfl) ?_
        refine gX10_113 C hd (rfl : kd 142 = 10) (q := 168) rfl dX10_trespasses_116 (fun y10 => ?_)
        refine lv_iload hx hb dX10_trespasses_119 (lv_at hl 6 rfl) ?_
        refine R_iald C hd y10 h dX10_trespasses_121 (fun x11 h => ?_)
        refine R_iald C hd y9 h dX10_trespasses_122 (fun x12 h => ?_)
        refine lv_iload_n hx hb dX10_trespasses_123 rfl (lv_at hl 1 rfl) ?_
        refine lv_icmp_ne (tgt := 131) hx hb dX10_trespasses_124 (by decide) (fun c13 => ?_) (fun c13 => ?_)
        · rw [if_neg c13] at h
          exact sBX10_trespasses_131 C hr hr61 hr74  hd (lv_sub hl [0, 1, 2, 3, 5, 6] rfl) h
        · rw [if_pos c13] at h
          exact sBX10_trespasses_127 C hr hr61 hr74  hd (lv_sub hl [0, 1, 2, 3, 5, 6] rfl) h
      · rw [if_pos c8] at h
        refine lv_iload hx hb dX10_trespasses_102 (lv_at hl 6 rfl) ?_
        refine lv_iload_n hx hb dX10_trespasses_104 rfl (lv_at hl 1 rfl) ?_
        refine lv_icmp_ne (tgt := 131) hx hb dX10_trespasses_105 (by decide) (fun c14 => ?_) (fun c14 => ?_)
        · rw [if_neg c14] at h
          exact sBX10_trespasses_131 C hr hr61 hr74  hd (lv_sub hl [0, 1, 2, 3, 5, 6] rfl) h
        · rw [if_pos c14] at h
          refine lv_goto (tgt := 127) hx hb dX10_trespasses_108 (by decide) ?_
          exact sBX10_trespasses_127 C hr hr61 hr74  hd (lv_sub hl [0, 1, 2, 3, 5, 6] rfl) h
def LX10_trespasses_74 (r61 : Int32 → Int32 → Int32 → Int32 → Int32 → St → Option (Int32 × St)) : Nat → Int32 → Int32 → Int32 → Int32 → Int32 → Int32 → St → Option (Int32 × St)
  | 0 => fun _ _ _ _ _ _ _ => none
  | n + 1 => fun l1 l2 l3 l4 l5 l6 S => KX10_trespasses_74 r61 (LX10_trespasses_74 r61 n) l1 l2 l3 l4 l5 l6 S
theorem sLX10_trespasses_74 (C : Cx p s m args meth c cX10_trespasses 7 RX10 G) (hr : meth.sig.returnType = some .int) {r61 : Int32 → Int32 → Int32 → Int32 → Int32 → St → Option (Int32 × St)} (hr61 : ∀ (l1 : Int32) (l2 : Int32) (l3 : Int32) (l4 : Int32) (l5 : Int32) (S : St) (res : (Int32 × St)) (H : Heap) (locs : List Loc) (ls : Array Slot), Dy G S s H locs → lv_has ls 7 [(0, .ref (gR G 142)), (1, .int l1), (2, .int l2), (3, .int l3), (4, .int l4), (5, .int l5)] → r61 l1 l2 l3 l4 l5 S = some res → W p l e (rmL 8 0 0) s m args below meth c H locs 0 0 (MQ below (QI G res.1 res.2) args s 0 0 (Ab G)) (F0 m 61 ls [])) : ∀ (n : Nat) (l1 : Int32) (l2 : Int32) (l3 : Int32) (l4 : Int32) (l5 : Int32) (l6 : Int32) (S : St) (res : (Int32 × St)) (H : Heap) (locs : List Loc) (ls : Array Slot), Dy G S s H locs → lv_has ls 7 [(0, .ref (gR G 142)), (1, .int l1), (2, .int l2), (3, .int l3), (4, .int l4), (5, .int l5), (6, .int l6)] → LX10_trespasses_74 r61 n l1 l2 l3 l4 l5 l6 S = some res → W p l e (rmL 8 0 0) s m args below meth c H locs 0 0 (MQ below (QI G res.1 res.2) args s 0 0 (Ab G)) (F0 m 74 ls []) := by
  intro n
  induction n with
  | zero => intro l1 l2 l3 l4 l5 l6 S res H locs ls  hd hl h; cases h
  | succ n ih =>
    intro l1 l2 l3 l4 l5 l6 S res H locs ls  hd hl h
    exact sKX10_trespasses_74 C hr hr61 ih  hd hl h
def KX10_trespasses_61 (r61 : Int32 → Int32 → Int32 → Int32 → Int32 → St → Option (Int32 × St)) (l1 : Int32) (l2 : Int32) (l3 : Int32) (l4 : Int32) (l5 : Int32) (S : St) : Option (Int32 × St) :=
  (if l2 ≤ l5 then bv (fX10_unpack 169 0 S) fun S => ri l4 S else bv (fX10_anHour  S) fun S => (LX10_trespasses_74 r61 FU l1 l2 l3 l4 l5 0 S))
set_option maxHeartbeats 4000000 in
set_option maxRecDepth 20000 in
theorem sKX10_trespasses_61 (C : Cx p s m args meth c cX10_trespasses 7 RX10 G) (hr : meth.sig.returnType = some .int) {r61 : Int32 → Int32 → Int32 → Int32 → Int32 → St → Option (Int32 × St)} (hr61 : ∀ (l1 : Int32) (l2 : Int32) (l3 : Int32) (l4 : Int32) (l5 : Int32) (S : St) (res : (Int32 × St)) (H : Heap) (locs : List Loc) (ls : Array Slot), Dy G S s H locs → lv_has ls 7 [(0, .ref (gR G 142)), (1, .int l1), (2, .int l2), (3, .int l3), (4, .int l4), (5, .int l5)] → r61 l1 l2 l3 l4 l5 S = some res → W p l e (rmL 8 0 0) s m args below meth c H locs 0 0 (MQ below (QI G res.1 res.2) args s 0 0 (Ab G)) (F0 m 61 ls [])) {l1 : Int32} {l2 : Int32} {l3 : Int32} {l4 : Int32} {l5 : Int32} {S : St} {res : (Int32 × St)} {H : Heap} {locs : List Loc} {ls : Array Slot}  (hd : Dy G S s H locs) (hl : lv_has ls 7 [(0, .ref (gR G 142)), (1, .int l1), (2, .int l2), (3, .int l3), (4, .int l4), (5, .int l5)]) (h : KX10_trespasses_61 r61 l1 l2 l3 l4 l5 S = some res) : W p l e (rmL 8 0 0) s m args below meth c H locs 0 0 (MQ below (QI G res.1 res.2) args s 0 0 (Ab G)) (F0 m 61 ls []) := by
  unfold KX10_trespasses_61 at h
  have hx := C.1.1
  have hb := C.1.2.1
  refine lv_iload hx hb dX10_trespasses_61 (lv_at hl 5 rfl) ?_
  refine lv_iload_n hx hb dX10_trespasses_63 rfl (lv_at hl 2 rfl) ?_
  refine lv_icmp_ge (tgt := 147) hx hb dX10_trespasses_64 (by decide) (fun c1 => ?_) (fun c1 => ?_)
  · rw [if_pos c1] at h
    refine lv_aload_n hx hb dX10_trespasses_147 rfl (lv_at hl 0 rfl) ?_
    refine lv_aload_n hx hb dX10_trespasses_148 rfl (lv_at hl 0 rfl) ?_
    refine gX10_116 C hd (rfl : kd 142 = 10) (q := 169) rfl dX10_trespasses_149 (fun y2 => ?_)
    refine lv_iconst (v := 0) hx hb dX10_trespasses_152 (by decide) ?_
    obtain ⟨S1, hc, h⟩ := bv_some h
    refine R_cVv C hd (ccX10_unpack l G y2 hc) kX10_430 rfl (by decide) (rfl : kd 142 = 10) hl.1 ⟨by decide, by decide⟩ rfl rfl (Nat.le_of_ble_eq_true rfl) dX10_trespasses_153 ⟨Nat.zero_le _, Nat.zero_le _⟩ (fun H locs hd => ?_)
    generalize S1 = S at h hd
    refine lv_iload hx hb dX10_trespasses_156 (lv_at hl 4 rfl) ?_
    exact R_iret C hr hd h dX10_trespasses_158
  · rw [if_neg c1] at h
    refine lv_aload_n hx hb dX10_trespasses_67 rfl (lv_at hl 0 rfl) ?_
    obtain ⟨S1, hc, h⟩ := bv_some h
    refine R_cVv C hd (ccX10_anHour l G  hc) kX10_389 rfl (by decide) (rfl : kd 142 = 10) hl.1 ⟨by decide, by decide⟩ rfl rfl (Nat.le_of_ble_eq_true rfl) dX10_trespasses_68 ⟨Nat.zero_le _, Nat.zero_le _⟩ (fun H locs hd => ?_)
    generalize S1 = S at h hd
    refine lv_iconst (v := 0) hx hb dX10_trespasses_71 (by decide) ?_
    refine lv_istore (lv' := [(6, .int 0), (0, .ref (gR G 142)), (1, .int l1), (2, .int l2), (3, .int l3), (4, .int l4), (5, .int l5)]) hx hb dX10_trespasses_72 hl (by decide) rfl (fun ls hl => ?_)
    exact sLX10_trespasses_74 C hr hr61 _ l1 l2 l3 l4 l5 0 _ _ _ _ _  hd (lv_sub hl [1, 2, 3, 4, 5, 6, 0] rfl) h
def LX10_trespasses_61 : Nat → Int32 → Int32 → Int32 → Int32 → Int32 → St → Option (Int32 × St)
  | 0 => fun _ _ _ _ _ _ => none
  | n + 1 => fun l1 l2 l3 l4 l5 S => KX10_trespasses_61 (LX10_trespasses_61 n) l1 l2 l3 l4 l5 S
theorem sLX10_trespasses_61 (C : Cx p s m args meth c cX10_trespasses 7 RX10 G) (hr : meth.sig.returnType = some .int) : ∀ (n : Nat) (l1 : Int32) (l2 : Int32) (l3 : Int32) (l4 : Int32) (l5 : Int32) (S : St) (res : (Int32 × St)) (H : Heap) (locs : List Loc) (ls : Array Slot), Dy G S s H locs → lv_has ls 7 [(0, .ref (gR G 142)), (1, .int l1), (2, .int l2), (3, .int l3), (4, .int l4), (5, .int l5)] → LX10_trespasses_61 n l1 l2 l3 l4 l5 S = some res → W p l e (rmL 8 0 0) s m args below meth c H locs 0 0 (MQ below (QI G res.1 res.2) args s 0 0 (Ab G)) (F0 m 61 ls []) := by
  intro n
  induction n with
  | zero => intro l1 l2 l3 l4 l5 S res H locs ls  hd hl h; cases h
  | succ n ih =>
    intro l1 l2 l3 l4 l5 S res H locs ls  hd hl h
    exact sKX10_trespasses_61 C hr ih  hd hl h
def fX10_trespasses (a1 : Int32) (a2 : Int32) (a3 : Int32) (S : St) : Option (Int32 × St) :=
  pf S 142 3 0 fun S => bd (fX10_isSinger a1 S) fun x1 S => (if x1 = 0 then (BX10_trespasses_22  S) else (if a3 < 0 then (BX10_trespasses_22  S) else (if a3 ≤ 1 then bd (fX10_isIn (a2.toInt64) 0 60 S) fun x5 S => (if x5 = 0 then bd (fX10_fail 2 S) fun x8 S => ri x8 S else bv (fX10_pack 169 0 S) fun S => (LX10_trespasses_61 FU a1 a2 a3 0 0 S)) else (BX10_trespasses_22  S))))
set_option maxHeartbeats 4000000 in
set_option maxRecDepth 20000 in
theorem sfX10_trespasses (C : Cx p s m args meth c cX10_trespasses 7 RX10 G) (hr : meth.sig.returnType = some .int) {a1 : Int32} {a2 : Int32} {a3 : Int32} {S : St} {res : (Int32 × St)} {H : Heap} {locs : List Loc} {ls : Array Slot}  (hd : Dy G S s H locs) (hl : lv_has ls 7 [(0, .ref (gR G 142)), (1, .int a1), (2, .int a2), (3, .int a3)]) (h : fX10_trespasses a1 a2 a3 S = some res) : W p l e (rmL 8 0 0) s m args below meth c H locs 0 0 (MQ below (QI G res.1 res.2) args s 0 0 (Ab G)) (F0 m 0 ls []) := by
  unfold fX10_trespasses at h
  have hx := C.1.1
  have hb := C.1.2.1
  refine lv_aload_n hx hb dX10_trespasses_0 rfl (lv_at hl 0 rfl) ?_
  refine lv_iconst (v := 0) hx hb dX10_trespasses_1 (by decide) ?_
  refine pX10_167 C hd (rfl : kd 142 = 10) h dX10_trespasses_2 (fun S H locs hd h => ?_)
  refine lv_aload_n hx hb dX10_trespasses_5 rfl (lv_at hl 0 rfl) ?_
  refine lv_iload_n hx hb dX10_trespasses_6 rfl (lv_at hl 1 rfl) ?_
  obtain ⟨x1, S1, hc, h⟩ := bd_some h
  refine R_cVi C hd (ccX10_isSinger l G  hc) kX10_400 rfl (by decide) (rfl : kd 142 = 10) hl.1 ⟨by decide, by decide⟩ rfl rfl (Nat.le_of_ble_eq_true rfl) dX10_trespasses_7 ⟨Nat.zero_le _, Nat.zero_le _⟩ (fun H locs hd => ?_)
  generalize S1 = S at h hd
  refine lv_if_eq (tgt := 22) hx hb dX10_trespasses_10 (by decide) (fun c2 => ?_) (fun c2 => ?_)
  · rw [if_pos c2] at h
    exact sBX10_trespasses_22 C hr  hd (lv_sub hl [0] rfl) h
  · rw [if_neg c2] at h
    refine lv_iload_n hx hb dX10_trespasses_13 rfl (lv_at hl 3 rfl) ?_
    refine lv_if_lt (tgt := 22) hx hb dX10_trespasses_14 (by decide) (fun c3 => ?_) (fun c3 => ?_)
    · rw [if_pos c3] at h
      exact sBX10_trespasses_22 C hr  hd (lv_sub hl [0] rfl) h
    · rw [if_neg c3] at h
      refine lv_iload_n hx hb dX10_trespasses_17 rfl (lv_at hl 3 rfl) ?_
      refine lv_iconst (v := 1) hx hb dX10_trespasses_18 (by decide) ?_
      refine lv_icmp_le (tgt := 28) hx hb dX10_trespasses_19 (by decide) (fun c4 => ?_) (fun c4 => ?_)
      · rw [if_pos c4] at h
        refine lv_iload_n hx hb dX10_trespasses_28 rfl (lv_at hl 2 rfl) ?_
        refine lv_i2l hx hb dX10_trespasses_29 rfl ?_
        refine lv_lconst (v := 0) hx hb dX10_trespasses_30 rfl ?_
        refine lv_ldc2 hx hb C.1.2.2.2.1 (C.1.2.2.2.2 _ kcX10_433) dX10_trespasses_31 ?_
        obtain ⟨x5, S1, hc, h⟩ := bd_some h
        refine R_cSi C hd (ccX10_isIn l G  hc) kX10_170  hl.1 ⟨by decide, by decide⟩ rfl rfl (Nat.le_of_ble_eq_true rfl) dX10_trespasses_34 ⟨Nat.zero_le _, Nat.zero_le _⟩ (fun H locs hd => ?_)
        generalize S1 = S at h hd
        refine lv_if_ne (tgt := 46) hx hb dX10_trespasses_37 (by decide) (fun c6 => ?_) (fun c6 => ?_)
        · rw [if_neg c6] at h
          refine lv_aload_n hx hb dX10_trespasses_46 rfl (lv_at hl 0 rfl) ?_
          refine lv_aload_n hx hb dX10_trespasses_47 rfl (lv_at hl 0 rfl) ?_
          refine gX10_116 C hd (rfl : kd 142 = 10) (q := 169) rfl dX10_trespasses_48 (fun y7 => ?_)
          refine lv_iconst (v := 0) hx hb dX10_trespasses_51 (by decide) ?_
          obtain ⟨S1, hc, h⟩ := bv_some h
          refine R_cVv C hd (ccX10_pack l G y7 hc) kX10_406 rfl (by decide) (rfl : kd 142 = 10) hl.1 ⟨by decide, by decide⟩ rfl rfl (Nat.le_of_ble_eq_true rfl) dX10_trespasses_52 ⟨Nat.zero_le _, Nat.zero_le _⟩ (fun H locs hd => ?_)
          generalize S1 = S at h hd
          refine lv_iconst (v := 0) hx hb dX10_trespasses_55 (by decide) ?_
          refine lv_istore (lv' := [(4, .int 0), (0, .ref (gR G 142)), (1, .int a1), (2, .int a2), (3, .int a3)]) hx hb dX10_trespasses_56 hl (by decide) rfl (fun ls hl => ?_)
          refine lv_iconst (v := 0) hx hb dX10_trespasses_58 (by decide) ?_
          refine lv_istore (lv' := [(5, .int 0), (4, .int 0), (0, .ref (gR G 142)), (1, .int a1), (2, .int a2), (3, .int a3)]) hx hb dX10_trespasses_59 hl (by decide) rfl (fun ls hl => ?_)
          exact sLX10_trespasses_61 C hr _ a1 a2 a3 0 0 _ _ _ _ _  hd (lv_sub hl [2, 3, 4, 5, 1, 0] rfl) h
        · rw [if_pos c6] at h
          refine lv_aload_n hx hb dX10_trespasses_40 rfl (lv_at hl 0 rfl) ?_
          refine lv_iconst (v := 2) hx hb dX10_trespasses_41 (by decide) ?_
          obtain ⟨x8, S1, hc, h⟩ := bd_some h
          refine R_cVi C hd (ccX10_fail l G  hc) kX10_325 rfl (by decide) (rfl : kd 142 = 10) hl.1 ⟨by decide, by decide⟩ rfl rfl (Nat.le_of_ble_eq_true rfl) dX10_trespasses_42 ⟨Nat.zero_le _, Nat.zero_le _⟩ (fun H locs hd => ?_)
          generalize S1 = S at h hd
          exact R_iret C hr hd h dX10_trespasses_45
      · rw [if_neg c4] at h
        exact sBX10_trespasses_22 C hr  hd (lv_sub hl [0] rfl) h
set_option maxRecDepth 20000 in
theorem ccX10_trespasses (l : Launch) (G : Gt) {a1 : Int32} {a2 : Int32} {a3 : Int32} {S : St} {res : (Int32 × St)}  (h : fX10_trespasses a1 a2 a3 S = some res) : Met l yX10_trespasses (wm yX10_trespasses cX10_trespasses 7 (some .int)) (rmL 8 0 0) (PcW G S [.ref (gR G 142), .int a1, .int a2, .int a3]) (QI G res.1 res.2) 0 0 (Ab G) := by
  refine Met.ofW (cc := cX10_trespasses) (maxL := 7) (ret := (some .int)) (by decide) rfl ?_
  intro p e s m args below meth c s₁ B hml hv
  obtain ⟨rfl, hK, hP⟩ := hv
  have C : Cx p s m _ meth c cX10_trespasses 7 RX10 G := ⟨⟨B.exec, B.bytes, hml, findClass_of_methodNamed B.named, fun w hw => atoms_spec (ws := wm yX10_trespasses cX10_trespasses 7 (some .int)) B.pre w (List.mem_cons_of_mem _ hw)⟩, B.notSynchronized, hK⟩
  have hl := lv_entry ([.ref (gR G 142), .int a1, .int a2, .int a3]) (n := 7) (Nat.le_of_ble_eq_true rfl)
  rw [lg_entry_eq]
  generalize (lg_sl ([.ref (gR G 142), .int a1, .int a2, .int a3]) ++ List.replicate (7 - (lg_sl ([.ref (gR G 142), .int a1, .int a2, .int a3])).length) Slot.unset).toArray = ls at hl ⊢
  exact sfX10_trespasses C B.returns  ⟨hP, va_S.rf⟩ hl h
def fX10_allKnow (a1 : Int32) (S : St) : Option (Int32 × St) :=
  pf S 142 3 0 fun S => bd (fX10_isField a1 S) fun x1 S => (if x1 = 0 then bd (fX10_fail 1 S) fun x3 S => ri x3 S else rd S 145 2 fun x5 => bd (fX10_knownIn (((1 : Int32) <<< (x5 &&& 31)) - 1) a1 S) fun x6 S => ri x6 S)
set_option maxHeartbeats 4000000 in
set_option maxRecDepth 20000 in
theorem sfX10_allKnow (C : Cx p s m args meth c cX10_allKnow 2 RX10 G) (hr : meth.sig.returnType = some .int) {a1 : Int32} {S : St} {res : (Int32 × St)} {H : Heap} {locs : List Loc} {ls : Array Slot}  (hd : Dy G S s H locs) (hl : lv_has ls 2 [(0, .ref (gR G 142)), (1, .int a1)]) (h : fX10_allKnow a1 S = some res) : W p l e (rmL 9 0 0) s m args below meth c H locs 0 0 (MQ below (QI G res.1 res.2) args s 0 0 (Ab G)) (F0 m 0 ls []) := by
  unfold fX10_allKnow at h
  have hx := C.1.1
  have hb := C.1.2.1
  refine lv_aload_n hx hb dX10_allKnow_0 rfl (lv_at hl 0 rfl) ?_
  refine lv_iconst (v := 0) hx hb dX10_allKnow_1 (by decide) ?_
  refine pX10_167 C hd (rfl : kd 142 = 10) h dX10_allKnow_2 (fun S H locs hd h => ?_)
  refine lv_aload_n hx hb dX10_allKnow_5 rfl (lv_at hl 0 rfl) ?_
  refine lv_iload_n hx hb dX10_allKnow_6 rfl (lv_at hl 1 rfl) ?_
  obtain ⟨x1, S1, hc, h⟩ := bd_some h
  refine R_cVi C hd (ccX10_isField l G  hc) kX10_392 rfl (by decide) (rfl : kd 142 = 10) hl.1 ⟨by decide, by decide⟩ rfl rfl (Nat.le_of_ble_eq_true rfl) dX10_allKnow_7 ⟨Nat.zero_le _, Nat.zero_le _⟩ (fun H locs hd => ?_)
  generalize S1 = S at h hd
  refine lv_if_eq (tgt := 31) hx hb dX10_allKnow_10 (by decide) (fun c2 => ?_) (fun c2 => ?_)
  · rw [if_pos c2] at h
    refine lv_aload_n hx hb dX10_allKnow_31 rfl (lv_at hl 0 rfl) ?_
    refine lv_iconst (v := 1) hx hb dX10_allKnow_32 (by decide) ?_
    obtain ⟨x3, S1, hc, h⟩ := bd_some h
    refine R_cVi C hd (ccX10_fail l G  hc) kX10_325 rfl (by decide) (rfl : kd 142 = 10) hl.1 ⟨by decide, by decide⟩ rfl rfl (Nat.le_of_ble_eq_true rfl) dX10_allKnow_33 ⟨Nat.zero_le _, Nat.zero_le _⟩ (fun H locs hd => ?_)
    generalize S1 = S at h hd
    exact R_iret C hr hd h dX10_allKnow_36
  · rw [if_neg c2] at h
    refine lv_aload_n hx hb dX10_allKnow_13 rfl (lv_at hl 0 rfl) ?_
    refine lv_iconst (v := 1) hx hb dX10_allKnow_14 (by decide) ?_
    refine lv_aload_n hx hb dX10_allKnow_15 rfl (lv_at hl 0 rfl) ?_
    refine gX10_39 C hd (rfl : kd 142 = 10) (q := 145) rfl dX10_allKnow_16 (fun y4 => ?_)
    refine lv_iconst (v := 2) hx hb dX10_allKnow_19 (by decide) ?_
    refine R_iald C hd y4 h dX10_allKnow_20 (fun x5 h => ?_)
    refine lv_ishl hx hb dX10_allKnow_21 ?_
    refine lv_iconst (v := 1) hx hb dX10_allKnow_22 (by decide) ?_
    refine lv_isub hx hb dX10_allKnow_23 ?_
    refine lv_iload_n hx hb dX10_allKnow_24 rfl (lv_at hl 1 rfl) ?_
    obtain ⟨x6, S1, hc, h⟩ := bd_some h
    refine R_cVi C hd (ccX10_knownIn l G  hc) kX10_435 rfl (by decide) (rfl : kd 142 = 10) hl.1 ⟨by decide, by decide⟩ rfl rfl (Nat.le_of_ble_eq_true rfl) dX10_allKnow_25 ⟨Nat.zero_le _, Nat.zero_le _⟩ (fun H locs hd => ?_)
    generalize S1 = S at h hd
    refine lv_goto (tgt := 36) hx hb dX10_allKnow_28 (by decide) ?_
    exact R_iret C hr hd h dX10_allKnow_36
set_option maxRecDepth 20000 in
theorem ccX10_allKnow (l : Launch) (G : Gt) {a1 : Int32} {S : St} {res : (Int32 × St)}  (h : fX10_allKnow a1 S = some res) : Met l yX10_allKnow (wm yX10_allKnow cX10_allKnow 2 (some .int)) (rmL 9 0 0) (PcW G S [.ref (gR G 142), .int a1]) (QI G res.1 res.2) 0 0 (Ab G) := by
  refine Met.ofW (cc := cX10_allKnow) (maxL := 2) (ret := (some .int)) (by decide) rfl ?_
  intro p e s m args below meth c s₁ B hml hv
  obtain ⟨rfl, hK, hP⟩ := hv
  have C : Cx p s m _ meth c cX10_allKnow 2 RX10 G := ⟨⟨B.exec, B.bytes, hml, findClass_of_methodNamed B.named, fun w hw => atoms_spec (ws := wm yX10_allKnow cX10_allKnow 2 (some .int)) B.pre w (List.mem_cons_of_mem _ hw)⟩, B.notSynchronized, hK⟩
  have hl := lv_entry ([.ref (gR G 142), .int a1]) (n := 2) (Nat.le_of_ble_eq_true rfl)
  rw [lg_entry_eq]
  generalize (lg_sl ([.ref (gR G 142), .int a1]) ++ List.replicate (2 - (lg_sl ([.ref (gR G 142), .int a1])).length) Slot.unset).toArray = ls at hl ⊢
  exact sfX10_allKnow C B.returns  ⟨hP, va_S.rf⟩ hl h
def BX10_knownByOthers_36 (r10 : Int32 → Int32 → Int32 → St → Option (Int32 × St)) (l1 : Int32) (l3 : Int32) (s0 : Int32) (s1 : Int32) (S : St) : Option (Int32 × St) :=
  vl (s0 ||| s1) fun x1 => vl (l3 + 1) fun x2 => (r10 l1 x1 x2 S)
set_option maxHeartbeats 4000000 in
set_option maxRecDepth 20000 in
theorem sBX10_knownByOthers_36 (C : Cx p s m args meth c cX10_knownByOthers 4 RX10 G) (hr : meth.sig.returnType = some .int) {r10 : Int32 → Int32 → Int32 → St → Option (Int32 × St)} (hr10 : ∀ (l1 : Int32) (l2 : Int32) (l3 : Int32) (S : St) (res : (Int32 × St)) (H : Heap) (locs : List Loc) (ls : Array Slot), Dy G S s H locs → lv_has ls 4 [(0, .ref (gR G 142)), (1, .int l1), (2, .int l2), (3, .int l3)] → r10 l1 l2 l3 S = some res → W p l e (rmL 9 0 0) s m args below meth c H locs 0 0 (MQ below (QI G res.1 res.2) args s 0 0 (Ab G)) (F0 m 10 ls [])) {l1 : Int32} {l3 : Int32} {s0 : Int32} {s1 : Int32} {S : St} {res : (Int32 × St)} {H : Heap} {locs : List Loc} {ls : Array Slot}  (hd : Dy G S s H locs) (hl : lv_has ls 4 [(0, .ref (gR G 142)), (1, .int l1), (3, .int l3)]) (h : BX10_knownByOthers_36 r10 l1 l3 s0 s1 S = some res) : W p l e (rmL 9 0 0) s m args below meth c H locs 0 0 (MQ below (QI G res.1 res.2) args s 0 0 (Ab G)) (F0 m 36 ls [.int s1, .int s0]) := by
  unfold BX10_knownByOthers_36 at h
  have hx := C.1.1
  have hb := C.1.2.1
  refine lv_ior hx hb dX10_knownByOthers_36 ?_
  refine R_vl h (fun x1 h => ?_)
  refine lv_istore_n (lv' := [(2, .int x1), (0, .ref (gR G 142)), (1, .int l1), (3, .int l3)]) hx hb dX10_knownByOthers_37 rfl hl (by decide) rfl (fun ls hl => ?_)
  refine R_vi h (fun x2 ex2 h => ?_)
  refine lv_iinc (v := x2) (lv' := [(3, .int x2), (2, .int x1), (0, .ref (gR G 142)), (1, .int l1)]) hx hb dX10_knownByOthers_38 hl (k := 3) rfl (by rw [ex2]; rfl) (by decide) rfl (fun ls hl => ?_)
  refine lv_goto (tgt := 10) hx hb dX10_knownByOthers_41 (by decide) ?_
  exact hr10 l1 x1 x2 _ _ _ _ _  hd (lv_sub hl [2, 3, 1, 0] rfl) h
def KX10_knownByOthers_10 (r10 : Int32 → Int32 → Int32 → St → Option (Int32 × St)) (l1 : Int32) (l2 : Int32) (l3 : Int32) (S : St) : Option (Int32 × St) :=
  rd S 145 2 fun x2 => (if x2 ≤ l3 then bv (fX10_unpack 169 0 S) fun S => ri l2 S else (if l3 = l1 then (BX10_knownByOthers_36 r10 l1 l3 l2 0 S) else rd S 158 l3 fun x7 => (BX10_knownByOthers_36 r10 l1 l3 l2 x7 S)))
set_option maxHeartbeats 4000000 in
set_option maxRecDepth 20000 in
theorem sKX10_knownByOthers_10 (C : Cx p s m args meth c cX10_knownByOthers 4 RX10 G) (hr : meth.sig.returnType = some .int) {r10 : Int32 → Int32 → Int32 → St → Option (Int32 × St)} (hr10 : ∀ (l1 : Int32) (l2 : Int32) (l3 : Int32) (S : St) (res : (Int32 × St)) (H : Heap) (locs : List Loc) (ls : Array Slot), Dy G S s H locs → lv_has ls 4 [(0, .ref (gR G 142)), (1, .int l1), (2, .int l2), (3, .int l3)] → r10 l1 l2 l3 S = some res → W p l e (rmL 9 0 0) s m args below meth c H locs 0 0 (MQ below (QI G res.1 res.2) args s 0 0 (Ab G)) (F0 m 10 ls [])) {l1 : Int32} {l2 : Int32} {l3 : Int32} {S : St} {res : (Int32 × St)} {H : Heap} {locs : List Loc} {ls : Array Slot}  (hd : Dy G S s H locs) (hl : lv_has ls 4 [(0, .ref (gR G 142)), (1, .int l1), (2, .int l2), (3, .int l3)]) (h : KX10_knownByOthers_10 r10 l1 l2 l3 S = some res) : W p l e (rmL 9 0 0) s m args below meth c H locs 0 0 (MQ below (QI G res.1 res.2) args s 0 0 (Ab G)) (F0 m 10 ls []) := by
  unfold KX10_knownByOthers_10 at h
  have hx := C.1.1
  have hb := C.1.2.1
  refine lv_iload_n hx hb dX10_knownByOthers_10 rfl (lv_at hl 3 rfl) ?_
  refine lv_aload_n hx hb dX10_knownByOthers_11 rfl (lv_at hl 0 rfl) ?_
  refine gX10_39 C hd (rfl : kd 142 = 10) (q := 145) rfl dX10_knownByOthers_12 (fun y1 => ?_)
  refine lv_iconst (v := 2) hx hb dX10_knownByOthers_15 (by decide) ?_
  refine R_iald C hd y1 h dX10_knownByOthers_16 (fun x2 h => ?_)
  refine lv_icmp_ge (tgt := 44) hx hb dX10_knownByOthers_17 (by decide) (fun c3 => ?_) (fun c3 => ?_)
  · rw [if_pos c3] at h
    refine lv_aload_n hx hb dX10_knownByOthers_44 rfl (lv_at hl 0 rfl) ?_
    refine lv_aload_n hx hb dX10_knownByOthers_45 rfl (lv_at hl 0 rfl) ?_
    refine gX10_116 C hd (rfl : kd 142 = 10) (q := 169) rfl dX10_knownByOthers_46 (fun y4 => ?_)
    refine lv_iconst (v := 0) hx hb dX10_knownByOthers_49 (by decide) ?_
    obtain ⟨S1, hc, h⟩ := bv_some h
    refine R_cVv C hd (ccX10_unpack l G y4 hc) kX10_430 rfl (by decide) (rfl : kd 142 = 10) hl.1 ⟨by decide, by decide⟩ rfl rfl (Nat.le_of_ble_eq_true rfl) dX10_knownByOthers_50 ⟨Nat.zero_le _, Nat.zero_le _⟩ (fun H locs hd => ?_)
    generalize S1 = S at h hd
    refine lv_iload_n hx hb dX10_knownByOthers_53 rfl (lv_at hl 2 rfl) ?_
    exact R_iret C hr hd h dX10_knownByOthers_54
  · rw [if_neg c3] at h
    refine lv_iload_n hx hb dX10_knownByOthers_20 rfl (lv_at hl 2 rfl) ?_
    refine lv_iload_n hx hb dX10_knownByOthers_21 rfl (lv_at hl 3 rfl) ?_
    refine lv_iload_n hx hb dX10_knownByOthers_22 rfl (lv_at hl 1 rfl) ?_
    refine lv_icmp_ne (tgt := 30) hx hb dX10_knownByOthers_23 (by decide) (fun c5 => ?_) (fun c5 => ?_)
    · rw [if_neg c5] at h
      refine lv_aload_n hx hb dX10_knownByOthers_30 rfl (lv_at hl 0 rfl) ?_
      refine gX10_81 C hd (rfl : kd 142 = 10) (q := 158) rfl dX10_knownByOthers_31 (fun y6 => ?_)
      refine lv_iload_n hx hb dX10_knownByOthers_34 rfl (lv_at hl 3 rfl) ?_
      refine R_iald C hd y6 h dX10_knownByOthers_35 (fun x7 h => ?_)
      exact sBX10_knownByOthers_36 C hr hr10  hd (lv_sub hl [0, 1, 3] rfl) h
    · rw [if_pos c5] at h
      refine lv_iconst (v := 0) hx hb dX10_knownByOthers_26 (by decide) ?_
      refine lv_goto (tgt := 36) hx hb dX10_knownByOthers_27 (by decide) ?_
      exact sBX10_knownByOthers_36 C hr hr10  hd (lv_sub hl [0, 1, 3] rfl) h
def LX10_knownByOthers_10 : Nat → Int32 → Int32 → Int32 → St → Option (Int32 × St)
  | 0 => fun _ _ _ _ => none
  | n + 1 => fun l1 l2 l3 S => KX10_knownByOthers_10 (LX10_knownByOthers_10 n) l1 l2 l3 S
theorem sLX10_knownByOthers_10 (C : Cx p s m args meth c cX10_knownByOthers 4 RX10 G) (hr : meth.sig.returnType = some .int) : ∀ (n : Nat) (l1 : Int32) (l2 : Int32) (l3 : Int32) (S : St) (res : (Int32 × St)) (H : Heap) (locs : List Loc) (ls : Array Slot), Dy G S s H locs → lv_has ls 4 [(0, .ref (gR G 142)), (1, .int l1), (2, .int l2), (3, .int l3)] → LX10_knownByOthers_10 n l1 l2 l3 S = some res → W p l e (rmL 9 0 0) s m args below meth c H locs 0 0 (MQ below (QI G res.1 res.2) args s 0 0 (Ab G)) (F0 m 10 ls []) := by
  intro n
  induction n with
  | zero => intro l1 l2 l3 S res H locs ls  hd hl h; cases h
  | succ n ih =>
    intro l1 l2 l3 S res H locs ls  hd hl h
    exact sKX10_knownByOthers_10 C hr ih  hd hl h
def fX10_knownByOthers (a1 : Int32) (S : St) : Option (Int32 × St) :=
  bv (fX10_goOn 30 S) fun S => (LX10_knownByOthers_10 FU a1 0 0 S)
set_option maxHeartbeats 4000000 in
set_option maxRecDepth 20000 in
theorem sfX10_knownByOthers (C : Cx p s m args meth c cX10_knownByOthers 4 RX10 G) (hr : meth.sig.returnType = some .int) {a1 : Int32} {S : St} {res : (Int32 × St)} {H : Heap} {locs : List Loc} {ls : Array Slot}  (hd : Dy G S s H locs) (hl : lv_has ls 4 [(0, .ref (gR G 142)), (1, .int a1)]) (h : fX10_knownByOthers a1 S = some res) : W p l e (rmL 9 0 0) s m args below meth c H locs 0 0 (MQ below (QI G res.1 res.2) args s 0 0 (Ab G)) (F0 m 0 ls []) := by
  unfold fX10_knownByOthers at h
  have hx := C.1.1
  have hb := C.1.2.1
  refine lv_aload_n hx hb dX10_knownByOthers_0 rfl (lv_at hl 0 rfl) ?_
  refine lv_bipush (v := 30) hx hb dX10_knownByOthers_1 (by decide) ?_
  obtain ⟨S1, hc, h⟩ := bv_some h
  refine R_cVv C hd (ccX10_goOn l G  hc) kX10_418 rfl (by decide) (rfl : kd 142 = 10) hl.1 ⟨by decide, by decide⟩ rfl rfl (Nat.le_of_ble_eq_true rfl) dX10_knownByOthers_3 ⟨Nat.zero_le _, Nat.zero_le _⟩ (fun H locs hd => ?_)
  generalize S1 = S at h hd
  refine lv_iconst (v := 0) hx hb dX10_knownByOthers_6 (by decide) ?_
  refine lv_istore_n (lv' := [(2, .int 0), (0, .ref (gR G 142)), (1, .int a1)]) hx hb dX10_knownByOthers_7 rfl hl (by decide) rfl (fun ls hl => ?_)
  refine lv_iconst (v := 0) hx hb dX10_knownByOthers_8 (by decide) ?_
  refine lv_istore_n (lv' := [(3, .int 0), (2, .int 0), (0, .ref (gR G 142)), (1, .int a1)]) hx hb dX10_knownByOthers_9 rfl hl (by decide) rfl (fun ls hl => ?_)
  exact sLX10_knownByOthers_10 C hr _ a1 0 0 _ _ _ _ _  hd (lv_sub hl [2, 3, 1, 0] rfl) h
set_option maxRecDepth 20000 in
theorem ccX10_knownByOthers (l : Launch) (G : Gt) {a1 : Int32} {S : St} {res : (Int32 × St)}  (h : fX10_knownByOthers a1 S = some res) : Met l yX10_knownByOthers (wm yX10_knownByOthers cX10_knownByOthers 4 (some .int)) (rmL 9 0 0) (PcW G S [.ref (gR G 142), .int a1]) (QI G res.1 res.2) 0 0 (Ab G) := by
  refine Met.ofW (cc := cX10_knownByOthers) (maxL := 4) (ret := (some .int)) (by decide) rfl ?_
  intro p e s m args below meth c s₁ B hml hv
  obtain ⟨rfl, hK, hP⟩ := hv
  have C : Cx p s m _ meth c cX10_knownByOthers 4 RX10 G := ⟨⟨B.exec, B.bytes, hml, findClass_of_methodNamed B.named, fun w hw => atoms_spec (ws := wm yX10_knownByOthers cX10_knownByOthers 4 (some .int)) B.pre w (List.mem_cons_of_mem _ hw)⟩, B.notSynchronized, hK⟩
  have hl := lv_entry ([.ref (gR G 142), .int a1]) (n := 4) (Nat.le_of_ble_eq_true rfl)
  rw [lg_entry_eq]
  generalize (lg_sl ([.ref (gR G 142), .int a1]) ++ List.replicate (4 - (lg_sl ([.ref (gR G 142), .int a1])).length) Slot.unset).toArray = ls at hl ⊢
  exact sfX10_knownByOthers C B.returns  ⟨hP, va_S.rf⟩ hl h
end T33
