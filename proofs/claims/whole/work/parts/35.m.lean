section T35
variable {p : Program} {l : Launch} {e : Env} {s : State} {m : MethodId} {args : Array Value} {below : List Frame} {meth : Method} {c : Code} {G : Gt}
def BX10_tellFits_115 (r7 : Int32 → St → Option St) (r19 : Int32 → Int32 → St → Option St) (r44 : Int32 → Int32 → Int32 → Int32 → St → Option St) (l1 : Int32) (l2 : Int32) (l3 : Int32) (l4 : Int32) (S : St) : Option St :=
  vl (l4 + 1) fun x1 => (r44 l1 l2 l3 x1 S)
set_option maxHeartbeats 4000000 in
set_option maxRecDepth 20000 in
theorem sBX10_tellFits_115 (C : Cx p s m args meth c cX10_tellFits 5 RX10 G) (hr : meth.sig.returnType = none) {r7 : Int32 → St → Option St} {r19 : Int32 → Int32 → St → Option St} {r44 : Int32 → Int32 → Int32 → Int32 → St → Option St} (hr7 : ∀ (l1 : Int32) (S : St) (res : St) (H : Heap) (locs : List Loc) (ls : Array Slot), Dy G S s H locs → lv_has ls 5 [(0, .ref (gR G 142)), (1, .int l1)] → r7 l1 S = some res → W p l e (rmL 10 0 0) s m args below meth c H locs 0 0 (MQ below (QV G res) args s 0 0 (Ab G)) (F0 m 7 ls [])) (hr19 : ∀ (l1 : Int32) (l2 : Int32) (S : St) (res : St) (H : Heap) (locs : List Loc) (ls : Array Slot), Dy G S s H locs → lv_has ls 5 [(0, .ref (gR G 142)), (1, .int l1), (2, .int l2)] → r19 l1 l2 S = some res → W p l e (rmL 10 0 0) s m args below meth c H locs 0 0 (MQ below (QV G res) args s 0 0 (Ab G)) (F0 m 19 ls [])) (hr44 : ∀ (l1 : Int32) (l2 : Int32) (l3 : Int32) (l4 : Int32) (S : St) (res : St) (H : Heap) (locs : List Loc) (ls : Array Slot), Dy G S s H locs → lv_has ls 5 [(0, .ref (gR G 142)), (1, .int l1), (2, .int l2), (3, .int l3), (4, .int l4)] → r44 l1 l2 l3 l4 S = some res → W p l e (rmL 10 0 0) s m args below meth c H locs 0 0 (MQ below (QV G res) args s 0 0 (Ab G)) (F0 m 44 ls [])) {l1 : Int32} {l2 : Int32} {l3 : Int32} {l4 : Int32} {S : St} {res : St} {H : Heap} {locs : List Loc} {ls : Array Slot}  (hd : Dy G S s H locs) (hl : lv_has ls 5 [(0, .ref (gR G 142)), (1, .int l1), (2, .int l2), (3, .int l3), (4, .int l4)]) (h : BX10_tellFits_115 r7 r19 r44 l1 l2 l3 l4 S = some res) : W p l e (rmL 10 0 0) s m args below meth c H locs 0 0 (MQ below (QV G res) args s 0 0 (Ab G)) (F0 m 115 ls []) := by
  unfold BX10_tellFits_115 at h
  have hx := C.1.1
  have hb := C.1.2.1
  refine R_vi h (fun x1 ex1 h => ?_)
  refine lv_iinc (v := x1) (lv' := [(4, .int x1), (0, .ref (gR G 142)), (1, .int l1), (2, .int l2), (3, .int l3)]) hx hb dX10_tellFits_115 hl (k := 4) rfl (by rw [ex1]; rfl) (by decide) rfl (fun ls hl => ?_)
  refine lv_goto (tgt := 44) hx hb dX10_tellFits_118 (by decide) ?_
  exact hr44 l1 l2 l3 x1 _ _ _ _ _  hd (lv_sub hl [1, 2, 3, 4, 0] rfl) h
def KX10_tellFits_44 (r7 : Int32 → St → Option St) (r19 : Int32 → Int32 → St → Option St) (r44 : Int32 → Int32 → Int32 → Int32 → St → Option St) (l1 : Int32) (l2 : Int32) (l3 : Int32) (l4 : Int32) (S : St) : Option St :=
  rd S 145 0 fun x2 => (if x2 ≤ l4 then wr S 161 ((6 * l1) + l2) l3 fun S => vl (l2 + 1) fun x5 => (r19 l1 x5 S) else wr S 161 ((6 * l1) + l2) l4 fun S => (if l4 = l3 then (BX10_tellFits_115 r7 r19 r44 l1 l2 l3 l4 S) else bd (fX10_isAsHeard  S) fun x8 S => (if x8 = 0 then (BX10_tellFits_115 r7 r19 r44 l1 l2 l3 l4 S) else wr S 178 (S 142 55) (((100 * l1) + (10 * l2)) + l4) fun S => pf S 142 55 ((S 142 55) + 1) fun S => (BX10_tellFits_115 r7 r19 r44 l1 l2 l3 l4 S))))
set_option maxHeartbeats 4000000 in
set_option maxRecDepth 20000 in
theorem sKX10_tellFits_44 (C : Cx p s m args meth c cX10_tellFits 5 RX10 G) (hr : meth.sig.returnType = none) {r7 : Int32 → St → Option St} {r19 : Int32 → Int32 → St → Option St} {r44 : Int32 → Int32 → Int32 → Int32 → St → Option St} (hr7 : ∀ (l1 : Int32) (S : St) (res : St) (H : Heap) (locs : List Loc) (ls : Array Slot), Dy G S s H locs → lv_has ls 5 [(0, .ref (gR G 142)), (1, .int l1)] → r7 l1 S = some res → W p l e (rmL 10 0 0) s m args below meth c H locs 0 0 (MQ below (QV G res) args s 0 0 (Ab G)) (F0 m 7 ls [])) (hr19 : ∀ (l1 : Int32) (l2 : Int32) (S : St) (res : St) (H : Heap) (locs : List Loc) (ls : Array Slot), Dy G S s H locs → lv_has ls 5 [(0, .ref (gR G 142)), (1, .int l1), (2, .int l2)] → r19 l1 l2 S = some res → W p l e (rmL 10 0 0) s m args below meth c H locs 0 0 (MQ below (QV G res) args s 0 0 (Ab G)) (F0 m 19 ls [])) (hr44 : ∀ (l1 : Int32) (l2 : Int32) (l3 : Int32) (l4 : Int32) (S : St) (res : St) (H : Heap) (locs : List Loc) (ls : Array Slot), Dy G S s H locs → lv_has ls 5 [(0, .ref (gR G 142)), (1, .int l1), (2, .int l2), (3, .int l3), (4, .int l4)] → r44 l1 l2 l3 l4 S = some res → W p l e (rmL 10 0 0) s m args below meth c H locs 0 0 (MQ below (QV G res) args s 0 0 (Ab G)) (F0 m 44 ls [])) {l1 : Int32} {l2 : Int32} {l3 : Int32} {l4 : Int32} {S : St} {res : St} {H : Heap} {locs : List Loc} {ls : Array Slot}  (hd : Dy G S s H locs) (hl : lv_has ls 5 [(0, .ref (gR G 142)), (1, .int l1), (2, .int l2), (3, .int l3), (4, .int l4)]) (h : KX10_tellFits_44 r7 r19 r44 l1 l2 l3 l4 S = some res) : W p l e (rmL 10 0 0) s m args below meth c H locs 0 0 (MQ below (QV G res) args s 0 0 (Ab G)) (F0 m 44 ls []) := by
  unfold KX10_tellFits_44 at h
  have hx := C.1.1
  have hb := C.1.2.1
  refine lv_iload hx hb dX10_tellFits_44 (lv_at hl 4 rfl) ?_
  refine lv_aload_n hx hb dX10_tellFits_46 rfl (lv_at hl 0 rfl) ?_
  refine gX10_39 C hd (rfl : kd 142 = 10) (q := 145) rfl dX10_tellFits_47 (fun y1 => ?_)
  refine lv_iconst (v := 0) hx hb dX10_tellFits_50 (by decide) ?_
  refine R_iald C hd y1 h dX10_tellFits_51 (fun x2 h => ?_)
  refine lv_icmp_ge (tgt := 121) hx hb dX10_tellFits_52 (by decide) (fun c3 => ?_) (fun c3 => ?_)
  · rw [if_pos c3] at h
    refine lv_aload_n hx hb dX10_tellFits_121 rfl (lv_at hl 0 rfl) ?_
    refine gX10_89 C hd (rfl : kd 142 = 10) (q := 161) rfl dX10_tellFits_122 (fun y4 => ?_)
    refine lv_bipush (v := 6) hx hb dX10_tellFits_125 (by decide) ?_
    refine lv_iload_n hx hb dX10_tellFits_127 rfl (lv_at hl 1 rfl) ?_
    refine lv_imul hx hb dX10_tellFits_128 ?_
    refine lv_iload_n hx hb dX10_tellFits_129 rfl (lv_at hl 2 rfl) ?_
    refine lv_iadd hx hb dX10_tellFits_130 ?_
    refine lv_iload_n hx hb dX10_tellFits_131 rfl (lv_at hl 3 rfl) ?_
    refine R_iast C hd y4 h dX10_tellFits_132 (fun S H locs hd h => ?_)
    refine R_vi h (fun x5 ex5 h => ?_)
    refine lv_iinc (v := x5) (lv' := [(2, .int x5), (0, .ref (gR G 142)), (1, .int l1), (3, .int l3), (4, .int l4)]) hx hb dX10_tellFits_133 hl (k := 2) rfl (by rw [ex5]; rfl) (by decide) rfl (fun ls hl => ?_)
    refine lv_goto (tgt := 19) hx hb dX10_tellFits_136 (by decide) ?_
    exact hr19 l1 x5 _ _ _ _ _  hd (lv_sub hl [1, 2, 0] rfl) h
  · rw [if_neg c3] at h
    refine lv_aload_n hx hb dX10_tellFits_55 rfl (lv_at hl 0 rfl) ?_
    refine gX10_89 C hd (rfl : kd 142 = 10) (q := 161) rfl dX10_tellFits_56 (fun y6 => ?_)
    refine lv_bipush (v := 6) hx hb dX10_tellFits_59 (by decide) ?_
    refine lv_iload_n hx hb dX10_tellFits_61 rfl (lv_at hl 1 rfl) ?_
    refine lv_imul hx hb dX10_tellFits_62 ?_
    refine lv_iload_n hx hb dX10_tellFits_63 rfl (lv_at hl 2 rfl) ?_
    refine lv_iadd hx hb dX10_tellFits_64 ?_
    refine lv_iload hx hb dX10_tellFits_65 (lv_at hl 4 rfl) ?_
    refine R_iast C hd y6 h dX10_tellFits_67 (fun S H locs hd h => ?_)
    refine lv_iload hx hb dX10_tellFits_68 (lv_at hl 4 rfl) ?_
    refine lv_iload_n hx hb dX10_tellFits_70 rfl (lv_at hl 3 rfl) ?_
    refine lv_icmp_eq (tgt := 115) hx hb dX10_tellFits_71 (by decide) (fun c7 => ?_) (fun c7 => ?_)
    · rw [if_pos c7] at h
      exact sBX10_tellFits_115 C hr hr7 hr19 hr44  hd (lv_sub hl [0, 1, 2, 3, 4] rfl) h
    · rw [if_neg c7] at h
      refine lv_aload_n hx hb dX10_tellFits_74 rfl (lv_at hl 0 rfl) ?_
      obtain ⟨x8, S1, hc, h⟩ := bd_some h
      refine R_cVi C hd (ccX10_isAsHeard l G  hc) kX10_455 rfl (by decide) (rfl : kd 142 = 10) hl.1 ⟨by decide, by decide⟩ rfl rfl (Nat.le_of_ble_eq_true rfl) dX10_tellFits_75 ⟨Nat.zero_le _, Nat.zero_le _⟩ (fun H locs hd => ?_)
      generalize S1 = S at h hd
      refine lv_if_ne (tgt := 84) hx hb dX10_tellFits_78 (by decide) (fun c9 => ?_) (fun c9 => ?_)
      · rw [if_neg c9] at h
        refine lv_aload_n hx hb dX10_tellFits_84 rfl (lv_at hl 0 rfl) ?_
        refine gX10_143 C hd (rfl : kd 142 = 10) (q := 178) rfl dX10_tellFits_85 (fun y10 => ?_)
        refine lv_aload_n hx hb dX10_tellFits_88 rfl (lv_at hl 0 rfl) ?_
        refine gX10_452 C hd (rfl : kd 142 = 10) dX10_tellFits_89 ?_
        refine lv_bipush (v := 100) hx hb dX10_tellFits_92 (by decide) ?_
        refine lv_iload_n hx hb dX10_tellFits_94 rfl (lv_at hl 1 rfl) ?_
        refine lv_imul hx hb dX10_tellFits_95 ?_
        refine lv_bipush (v := 10) hx hb dX10_tellFits_96 (by decide) ?_
        refine lv_iload_n hx hb dX10_tellFits_98 rfl (lv_at hl 2 rfl) ?_
        refine lv_imul hx hb dX10_tellFits_99 ?_
        refine lv_iadd hx hb dX10_tellFits_100 ?_
        refine lv_iload hx hb dX10_tellFits_101 (lv_at hl 4 rfl) ?_
        refine lv_iadd hx hb dX10_tellFits_103 ?_
        refine R_iast C hd y10 h dX10_tellFits_104 (fun S H locs hd h => ?_)
        refine lv_aload_n hx hb dX10_tellFits_105 rfl (lv_at hl 0 rfl) ?_
        refine lv_dup hx hb dX10_tellFits_106 rfl ?_
        refine gX10_452 C hd (rfl : kd 142 = 10) dX10_tellFits_107 ?_
        refine lv_iconst (v := 1) hx hb dX10_tellFits_110 (by decide) ?_
        refine lv_iadd hx hb dX10_tellFits_111 ?_
        refine pX10_452 C hd (rfl : kd 142 = 10) h dX10_tellFits_112 (fun S H locs hd h => ?_)
        exact sBX10_tellFits_115 C hr hr7 hr19 hr44  hd (lv_sub hl [0, 1, 2, 3, 4] rfl) h
      · rw [if_pos c9] at h
        refine lv_goto (tgt := 115) hx hb dX10_tellFits_81 (by decide) ?_
        exact sBX10_tellFits_115 C hr hr7 hr19 hr44  hd (lv_sub hl [0, 1, 2, 3, 4] rfl) h
def LX10_tellFits_44 (r7 : Int32 → St → Option St) (r19 : Int32 → Int32 → St → Option St) : Nat → Int32 → Int32 → Int32 → Int32 → St → Option St
  | 0 => fun _ _ _ _ _ => none
  | n + 1 => fun l1 l2 l3 l4 S => KX10_tellFits_44 r7 r19 (LX10_tellFits_44 r7 r19 n) l1 l2 l3 l4 S
theorem sLX10_tellFits_44 (C : Cx p s m args meth c cX10_tellFits 5 RX10 G) (hr : meth.sig.returnType = none) {r7 : Int32 → St → Option St} {r19 : Int32 → Int32 → St → Option St} (hr7 : ∀ (l1 : Int32) (S : St) (res : St) (H : Heap) (locs : List Loc) (ls : Array Slot), Dy G S s H locs → lv_has ls 5 [(0, .ref (gR G 142)), (1, .int l1)] → r7 l1 S = some res → W p l e (rmL 10 0 0) s m args below meth c H locs 0 0 (MQ below (QV G res) args s 0 0 (Ab G)) (F0 m 7 ls [])) (hr19 : ∀ (l1 : Int32) (l2 : Int32) (S : St) (res : St) (H : Heap) (locs : List Loc) (ls : Array Slot), Dy G S s H locs → lv_has ls 5 [(0, .ref (gR G 142)), (1, .int l1), (2, .int l2)] → r19 l1 l2 S = some res → W p l e (rmL 10 0 0) s m args below meth c H locs 0 0 (MQ below (QV G res) args s 0 0 (Ab G)) (F0 m 19 ls [])) : ∀ (n : Nat) (l1 : Int32) (l2 : Int32) (l3 : Int32) (l4 : Int32) (S : St) (res : St) (H : Heap) (locs : List Loc) (ls : Array Slot), Dy G S s H locs → lv_has ls 5 [(0, .ref (gR G 142)), (1, .int l1), (2, .int l2), (3, .int l3), (4, .int l4)] → LX10_tellFits_44 r7 r19 n l1 l2 l3 l4 S = some res → W p l e (rmL 10 0 0) s m args below meth c H locs 0 0 (MQ below (QV G res) args s 0 0 (Ab G)) (F0 m 44 ls []) := by
  intro n
  induction n with
  | zero => intro l1 l2 l3 l4 S res H locs ls  hd hl h; cases h
  | succ n ih =>
    intro l1 l2 l3 l4 S res H locs ls  hd hl h
    exact sKX10_tellFits_44 C hr hr7 hr19 ih  hd hl h
def KX10_tellFits_19 (r7 : Int32 → St → Option St) (r19 : Int32 → Int32 → St → Option St) (l1 : Int32) (l2 : Int32) (S : St) : Option St :=
  rd S 151 l1 fun x2 => (if x2 ≤ l2 then vl (l1 + 1) fun x4 => (r7 x4 S) else rd S 161 ((6 * l1) + l2) fun x6 => (LX10_tellFits_44 r7 r19 FU l1 l2 x6 0 S))
set_option maxHeartbeats 4000000 in
set_option maxRecDepth 20000 in
theorem sKX10_tellFits_19 (C : Cx p s m args meth c cX10_tellFits 5 RX10 G) (hr : meth.sig.returnType = none) {r7 : Int32 → St → Option St} {r19 : Int32 → Int32 → St → Option St} (hr7 : ∀ (l1 : Int32) (S : St) (res : St) (H : Heap) (locs : List Loc) (ls : Array Slot), Dy G S s H locs → lv_has ls 5 [(0, .ref (gR G 142)), (1, .int l1)] → r7 l1 S = some res → W p l e (rmL 10 0 0) s m args below meth c H locs 0 0 (MQ below (QV G res) args s 0 0 (Ab G)) (F0 m 7 ls [])) (hr19 : ∀ (l1 : Int32) (l2 : Int32) (S : St) (res : St) (H : Heap) (locs : List Loc) (ls : Array Slot), Dy G S s H locs → lv_has ls 5 [(0, .ref (gR G 142)), (1, .int l1), (2, .int l2)] → r19 l1 l2 S = some res → W p l e (rmL 10 0 0) s m args below meth c H locs 0 0 (MQ below (QV G res) args s 0 0 (Ab G)) (F0 m 19 ls [])) {l1 : Int32} {l2 : Int32} {S : St} {res : St} {H : Heap} {locs : List Loc} {ls : Array Slot}  (hd : Dy G S s H locs) (hl : lv_has ls 5 [(0, .ref (gR G 142)), (1, .int l1), (2, .int l2)]) (h : KX10_tellFits_19 r7 r19 l1 l2 S = some res) : W p l e (rmL 10 0 0) s m args below meth c H locs 0 0 (MQ below (QV G res) args s 0 0 (Ab G)) (F0 m 19 ls []) := by
  unfold KX10_tellFits_19 at h
  have hx := C.1.1
  have hb := C.1.2.1
  refine lv_iload_n hx hb dX10_tellFits_19 rfl (lv_at hl 2 rfl) ?_
  refine lv_aload_n hx hb dX10_tellFits_20 rfl (lv_at hl 0 rfl) ?_
  refine gX10_56 C hd (rfl : kd 142 = 10) (q := 151) rfl dX10_tellFits_21 (fun y1 => ?_)
  refine lv_iload_n hx hb dX10_tellFits_24 rfl (lv_at hl 1 rfl) ?_
  refine R_iald C hd y1 h dX10_tellFits_25 (fun x2 h => ?_)
  refine lv_icmp_ge (tgt := 139) hx hb dX10_tellFits_26 (by decide) (fun c3 => ?_) (fun c3 => ?_)
  · rw [if_pos c3] at h
    refine R_vi h (fun x4 ex4 h => ?_)
    refine lv_iinc (v := x4) (lv' := [(1, .int x4), (0, .ref (gR G 142)), (2, .int l2)]) hx hb dX10_tellFits_139 hl (k := 1) rfl (by rw [ex4]; rfl) (by decide) rfl (fun ls hl => ?_)
    refine lv_goto (tgt := 7) hx hb dX10_tellFits_142 (by decide) ?_
    exact hr7 x4 _ _ _ _ _  hd (lv_sub hl [1, 0] rfl) h
  · rw [if_neg c3] at h
    refine lv_aload_n hx hb dX10_tellFits_29 rfl (lv_at hl 0 rfl) ?_
    refine gX10_89 C hd (rfl : kd 142 = 10) (q := 161) rfl dX10_tellFits_30 (fun y5 => ?_)
    refine lv_bipush (v := 6) hx hb dX10_tellFits_33 (by decide) ?_
    refine lv_iload_n hx hb dX10_tellFits_35 rfl (lv_at hl 1 rfl) ?_
    refine lv_imul hx hb dX10_tellFits_36 ?_
    refine lv_iload_n hx hb dX10_tellFits_37 rfl (lv_at hl 2 rfl) ?_
    refine lv_iadd hx hb dX10_tellFits_38 ?_
    refine R_iald C hd y5 h dX10_tellFits_39 (fun x6 h => ?_)
    refine lv_istore_n (lv' := [(3, .int x6), (0, .ref (gR G 142)), (1, .int l1), (2, .int l2)]) hx hb dX10_tellFits_40 rfl hl (by decide) rfl (fun ls hl => ?_)
    refine lv_iconst (v := 0) hx hb dX10_tellFits_41 (by decide) ?_
    refine lv_istore (lv' := [(4, .int 0), (3, .int x6), (0, .ref (gR G 142)), (1, .int l1), (2, .int l2)]) hx hb dX10_tellFits_42 hl (by decide) rfl (fun ls hl => ?_)
    exact sLX10_tellFits_44 C hr hr7 hr19 _ l1 l2 x6 0 _ _ _ _ _  hd (lv_sub hl [2, 3, 4, 1, 0] rfl) h
def LX10_tellFits_19 (r7 : Int32 → St → Option St) : Nat → Int32 → Int32 → St → Option St
  | 0 => fun _ _ _ => none
  | n + 1 => fun l1 l2 S => KX10_tellFits_19 r7 (LX10_tellFits_19 r7 n) l1 l2 S
theorem sLX10_tellFits_19 (C : Cx p s m args meth c cX10_tellFits 5 RX10 G) (hr : meth.sig.returnType = none) {r7 : Int32 → St → Option St} (hr7 : ∀ (l1 : Int32) (S : St) (res : St) (H : Heap) (locs : List Loc) (ls : Array Slot), Dy G S s H locs → lv_has ls 5 [(0, .ref (gR G 142)), (1, .int l1)] → r7 l1 S = some res → W p l e (rmL 10 0 0) s m args below meth c H locs 0 0 (MQ below (QV G res) args s 0 0 (Ab G)) (F0 m 7 ls [])) : ∀ (n : Nat) (l1 : Int32) (l2 : Int32) (S : St) (res : St) (H : Heap) (locs : List Loc) (ls : Array Slot), Dy G S s H locs → lv_has ls 5 [(0, .ref (gR G 142)), (1, .int l1), (2, .int l2)] → LX10_tellFits_19 r7 n l1 l2 S = some res → W p l e (rmL 10 0 0) s m args below meth c H locs 0 0 (MQ below (QV G res) args s 0 0 (Ab G)) (F0 m 19 ls []) := by
  intro n
  induction n with
  | zero => intro l1 l2 S res H locs ls  hd hl h; cases h
  | succ n ih =>
    intro l1 l2 S res H locs ls  hd hl h
    exact sKX10_tellFits_19 C hr hr7 ih  hd hl h
def KX10_tellFits_7 (r7 : Int32 → St → Option St) (l1 : Int32) (S : St) : Option St :=
  rd S 145 2 fun x2 => (if x2 ≤ l1 then some S else (LX10_tellFits_19 r7 FU l1 0 S))
set_option maxHeartbeats 4000000 in
set_option maxRecDepth 20000 in
theorem sKX10_tellFits_7 (C : Cx p s m args meth c cX10_tellFits 5 RX10 G) (hr : meth.sig.returnType = none) {r7 : Int32 → St → Option St} (hr7 : ∀ (l1 : Int32) (S : St) (res : St) (H : Heap) (locs : List Loc) (ls : Array Slot), Dy G S s H locs → lv_has ls 5 [(0, .ref (gR G 142)), (1, .int l1)] → r7 l1 S = some res → W p l e (rmL 10 0 0) s m args below meth c H locs 0 0 (MQ below (QV G res) args s 0 0 (Ab G)) (F0 m 7 ls [])) {l1 : Int32} {S : St} {res : St} {H : Heap} {locs : List Loc} {ls : Array Slot}  (hd : Dy G S s H locs) (hl : lv_has ls 5 [(0, .ref (gR G 142)), (1, .int l1)]) (h : KX10_tellFits_7 r7 l1 S = some res) : W p l e (rmL 10 0 0) s m args below meth c H locs 0 0 (MQ below (QV G res) args s 0 0 (Ab G)) (F0 m 7 ls []) := by
  unfold KX10_tellFits_7 at h
  have hx := C.1.1
  have hb := C.1.2.1
  refine lv_iload_n hx hb dX10_tellFits_7 rfl (lv_at hl 1 rfl) ?_
  refine lv_aload_n hx hb dX10_tellFits_8 rfl (lv_at hl 0 rfl) ?_
  refine gX10_39 C hd (rfl : kd 142 = 10) (q := 145) rfl dX10_tellFits_9 (fun y1 => ?_)
  refine lv_iconst (v := 2) hx hb dX10_tellFits_12 (by decide) ?_
  refine R_iald C hd y1 h dX10_tellFits_13 (fun x2 h => ?_)
  refine lv_icmp_ge (tgt := 145) hx hb dX10_tellFits_14 (by decide) (fun c3 => ?_) (fun c3 => ?_)
  · rw [if_pos c3] at h
    exact R_vret C hr hd h dX10_tellFits_145
  · rw [if_neg c3] at h
    refine lv_iconst (v := 0) hx hb dX10_tellFits_17 (by decide) ?_
    refine lv_istore_n (lv' := [(2, .int 0), (0, .ref (gR G 142)), (1, .int l1)]) hx hb dX10_tellFits_18 rfl hl (by decide) rfl (fun ls hl => ?_)
    exact sLX10_tellFits_19 C hr hr7 _ l1 0 _ _ _ _ _  hd (lv_sub hl [1, 2, 0] rfl) h
def LX10_tellFits_7 : Nat → Int32 → St → Option St
  | 0 => fun _ _ => none
  | n + 1 => fun l1 S => KX10_tellFits_7 (LX10_tellFits_7 n) l1 S
theorem sLX10_tellFits_7 (C : Cx p s m args meth c cX10_tellFits 5 RX10 G) (hr : meth.sig.returnType = none) : ∀ (n : Nat) (l1 : Int32) (S : St) (res : St) (H : Heap) (locs : List Loc) (ls : Array Slot), Dy G S s H locs → lv_has ls 5 [(0, .ref (gR G 142)), (1, .int l1)] → LX10_tellFits_7 n l1 S = some res → W p l e (rmL 10 0 0) s m args below meth c H locs 0 0 (MQ below (QV G res) args s 0 0 (Ab G)) (F0 m 7 ls []) := by
  intro n
  induction n with
  | zero => intro l1 S res H locs ls  hd hl h; cases h
  | succ n ih =>
    intro l1 S res H locs ls  hd hl h
    exact sKX10_tellFits_7 C hr ih  hd hl h
def fX10_tellFits  (S : St) : Option St :=
  pf S 142 55 0 fun S => (LX10_tellFits_7 FU 0 S)
set_option maxHeartbeats 4000000 in
set_option maxRecDepth 20000 in
theorem sfX10_tellFits (C : Cx p s m args meth c cX10_tellFits 5 RX10 G) (hr : meth.sig.returnType = none)  {S : St} {res : St} {H : Heap} {locs : List Loc} {ls : Array Slot}  (hd : Dy G S s H locs) (hl : lv_has ls 5 [(0, .ref (gR G 142))]) (h : fX10_tellFits  S = some res) : W p l e (rmL 10 0 0) s m args below meth c H locs 0 0 (MQ below (QV G res) args s 0 0 (Ab G)) (F0 m 0 ls []) := by
  unfold fX10_tellFits at h
  have hx := C.1.1
  have hb := C.1.2.1
  refine lv_aload_n hx hb dX10_tellFits_0 rfl (lv_at hl 0 rfl) ?_
  refine lv_iconst (v := 0) hx hb dX10_tellFits_1 (by decide) ?_
  refine pX10_452 C hd (rfl : kd 142 = 10) h dX10_tellFits_2 (fun S H locs hd h => ?_)
  refine lv_iconst (v := 0) hx hb dX10_tellFits_5 (by decide) ?_
  refine lv_istore_n (lv' := [(1, .int 0), (0, .ref (gR G 142))]) hx hb dX10_tellFits_6 rfl hl (by decide) rfl (fun ls hl => ?_)
  exact sLX10_tellFits_7 C hr _ 0 _ _ _ _ _  hd (lv_sub hl [1, 0] rfl) h
set_option maxRecDepth 20000 in
theorem ccX10_tellFits (l : Launch) (G : Gt)  {S : St} {res : St}  (h : fX10_tellFits  S = some res) : Met l yX10_tellFits (wm yX10_tellFits cX10_tellFits 5 (none)) (rmL 10 0 0) (PcW G S [.ref (gR G 142)]) (QV G res) 0 0 (Ab G) := by
  refine Met.ofW (cc := cX10_tellFits) (maxL := 5) (ret := none) (by decide) rfl ?_
  intro p e s m args below meth c s₁ B hml hv
  obtain ⟨rfl, hK, hP⟩ := hv
  have C : Cx p s m _ meth c cX10_tellFits 5 RX10 G := ⟨⟨B.exec, B.bytes, hml, findClass_of_methodNamed B.named, fun w hw => atoms_spec (ws := wm yX10_tellFits cX10_tellFits 5 (none)) B.pre w (List.mem_cons_of_mem _ hw)⟩, B.notSynchronized, hK⟩
  have hl := lv_entry ([.ref (gR G 142)]) (n := 5) (Nat.le_of_ble_eq_true rfl)
  rw [lg_entry_eq]
  generalize (lg_sl ([.ref (gR G 142)]) ++ List.replicate (5 - (lg_sl ([.ref (gR G 142)])).length) Slot.unset).toArray = ls at hl ⊢
  exact sfX10_tellFits C B.returns  ⟨hP, va_S.rf⟩ hl h
def fX10_otherwise (a1 : Int32) (S : St) : Option (Int32 × St) :=
  pf S 142 3 0 fun S => bd (fX10_isIn (a1.toInt64) 0 2 S) fun x1 S => (if x1 = 0 then bd (fX10_fail 1 S) fun x10 S => ri x10 S else (if a1 = 2 then bd (fX10_isAsHeard  S) fun x8 S => (if x8 = 0 then ri 0 S else ri 1 S) else bv (fX10_tellFits  S) fun S => (if a1 = 0 then ri (S 142 55) S else (if (S 142 55) = 0 then ri ((-1)) S else rd S 178 0 fun x7 => ri x7 S))))
set_option maxHeartbeats 4000000 in
set_option maxRecDepth 20000 in
theorem sfX10_otherwise (C : Cx p s m args meth c cX10_otherwise 2 RX10 G) (hr : meth.sig.returnType = some .int) {a1 : Int32} {S : St} {res : (Int32 × St)} {H : Heap} {locs : List Loc} {ls : Array Slot}  (hd : Dy G S s H locs) (hl : lv_has ls 2 [(0, .ref (gR G 142)), (1, .int a1)]) (h : fX10_otherwise a1 S = some res) : W p l e (rmL 11 0 0) s m args below meth c H locs 0 0 (MQ below (QI G res.1 res.2) args s 0 0 (Ab G)) (F0 m 0 ls []) := by
  unfold fX10_otherwise at h
  have hx := C.1.1
  have hb := C.1.2.1
  refine lv_aload_n hx hb dX10_otherwise_0 rfl (lv_at hl 0 rfl) ?_
  refine lv_iconst (v := 0) hx hb dX10_otherwise_1 (by decide) ?_
  refine pX10_167 C hd (rfl : kd 142 = 10) h dX10_otherwise_2 (fun S H locs hd h => ?_)
  refine lv_iload_n hx hb dX10_otherwise_5 rfl (lv_at hl 1 rfl) ?_
  refine lv_i2l hx hb dX10_otherwise_6 rfl ?_
  refine lv_lconst (v := 0) hx hb dX10_otherwise_7 rfl ?_
  refine lv_ldc2 hx hb C.1.2.2.2.1 (C.1.2.2.2.2 _ kcX10_458) dX10_otherwise_8 ?_
  obtain ⟨x1, S1, hc, h⟩ := bd_some h
  refine R_cSi C hd (ccX10_isIn l G  hc) kX10_170  hl.1 ⟨by decide, by decide⟩ rfl rfl (Nat.le_of_ble_eq_true rfl) dX10_otherwise_11 ⟨Nat.zero_le _, Nat.zero_le _⟩ (fun H locs hd => ?_)
  generalize S1 = S at h hd
  refine lv_if_ne (tgt := 23) hx hb dX10_otherwise_14 (by decide) (fun c2 => ?_) (fun c2 => ?_)
  · rw [if_neg c2] at h
    refine lv_iload_n hx hb dX10_otherwise_23 rfl (lv_at hl 1 rfl) ?_
    refine lv_iconst (v := 2) hx hb dX10_otherwise_24 (by decide) ?_
    refine lv_icmp_ne (tgt := 41) hx hb dX10_otherwise_25 (by decide) (fun c3 => ?_) (fun c3 => ?_)
    · rw [if_neg c3] at h
      refine lv_aload_n hx hb dX10_otherwise_41 rfl (lv_at hl 0 rfl) ?_
      obtain ⟨S1, hc, h⟩ := bv_some h
      refine R_cVv C hd (ccX10_tellFits l G  hc) kX10_460 rfl (by decide) (rfl : kd 142 = 10) hl.1 ⟨by decide, by decide⟩ rfl rfl (Nat.le_of_ble_eq_true rfl) dX10_otherwise_42 ⟨Nat.zero_le _, Nat.zero_le _⟩ (fun H locs hd => ?_)
      generalize S1 = S at h hd
      refine lv_iload_n hx hb dX10_otherwise_45 rfl (lv_at hl 1 rfl) ?_
      refine lv_if_ne (tgt := 56) hx hb dX10_otherwise_46 (by decide) (fun c4 => ?_) (fun c4 => ?_)
      · rw [if_neg c4] at h
        refine lv_aload_n hx hb dX10_otherwise_56 rfl (lv_at hl 0 rfl) ?_
        refine gX10_452 C hd (rfl : kd 142 = 10) dX10_otherwise_57 ?_
        refine lv_if_ne (tgt := 67) hx hb dX10_otherwise_60 (by decide) (fun c5 => ?_) (fun c5 => ?_)
        · rw [if_neg c5] at h
          refine lv_aload_n hx hb dX10_otherwise_67 rfl (lv_at hl 0 rfl) ?_
          refine gX10_143 C hd (rfl : kd 142 = 10) (q := 178) rfl dX10_otherwise_68 (fun y6 => ?_)
          refine lv_iconst (v := 0) hx hb dX10_otherwise_71 (by decide) ?_
          refine R_iald C hd y6 h dX10_otherwise_72 (fun x7 h => ?_)
          exact R_iret C hr hd h dX10_otherwise_73
        · rw [if_pos c5] at h
          refine lv_iconst (v := -1) hx hb dX10_otherwise_63 (by decide) ?_
          refine lv_goto (tgt := 73) hx hb dX10_otherwise_64 (by decide) ?_
          exact R_iret C hr hd h dX10_otherwise_73
      · rw [if_pos c4] at h
        refine lv_aload_n hx hb dX10_otherwise_49 rfl (lv_at hl 0 rfl) ?_
        refine gX10_452 C hd (rfl : kd 142 = 10) dX10_otherwise_50 ?_
        refine lv_goto (tgt := 73) hx hb dX10_otherwise_53 (by decide) ?_
        exact R_iret C hr hd h dX10_otherwise_73
    · rw [if_pos c3] at h
      refine lv_aload_n hx hb dX10_otherwise_28 rfl (lv_at hl 0 rfl) ?_
      obtain ⟨x8, S1, hc, h⟩ := bd_some h
      refine R_cVi C hd (ccX10_isAsHeard l G  hc) kX10_455 rfl (by decide) (rfl : kd 142 = 10) hl.1 ⟨by decide, by decide⟩ rfl rfl (Nat.le_of_ble_eq_true rfl) dX10_otherwise_29 ⟨Nat.zero_le _, Nat.zero_le _⟩ (fun H locs hd => ?_)
      generalize S1 = S at h hd
      refine lv_if_eq (tgt := 39) hx hb dX10_otherwise_32 (by decide) (fun c9 => ?_) (fun c9 => ?_)
      · rw [if_pos c9] at h
        refine lv_iconst (v := 0) hx hb dX10_otherwise_39 (by decide) ?_
        exact R_iret C hr hd h dX10_otherwise_40
      · rw [if_neg c9] at h
        refine lv_iconst (v := 1) hx hb dX10_otherwise_35 (by decide) ?_
        refine lv_goto (tgt := 40) hx hb dX10_otherwise_36 (by decide) ?_
        exact R_iret C hr hd h dX10_otherwise_40
  · rw [if_pos c2] at h
    refine lv_aload_n hx hb dX10_otherwise_17 rfl (lv_at hl 0 rfl) ?_
    refine lv_iconst (v := 1) hx hb dX10_otherwise_18 (by decide) ?_
    obtain ⟨x10, S1, hc, h⟩ := bd_some h
    refine R_cVi C hd (ccX10_fail l G  hc) kX10_325 rfl (by decide) (rfl : kd 142 = 10) hl.1 ⟨by decide, by decide⟩ rfl rfl (Nat.le_of_ble_eq_true rfl) dX10_otherwise_19 ⟨Nat.zero_le _, Nat.zero_le _⟩ (fun H locs hd => ?_)
    generalize S1 = S at h hd
    exact R_iret C hr hd h dX10_otherwise_22
set_option maxRecDepth 20000 in
theorem ccX10_otherwise (l : Launch) (G : Gt) {a1 : Int32} {S : St} {res : (Int32 × St)}  (h : fX10_otherwise a1 S = some res) : Met l yX10_otherwise (wm yX10_otherwise cX10_otherwise 2 (some .int)) (rmL 11 0 0) (PcW G S [.ref (gR G 142), .int a1]) (QI G res.1 res.2) 0 0 (Ab G) := by
  refine Met.ofW (cc := cX10_otherwise) (maxL := 2) (ret := (some .int)) (by decide) rfl ?_
  intro p e s m args below meth c s₁ B hml hv
  obtain ⟨rfl, hK, hP⟩ := hv
  have C : Cx p s m _ meth c cX10_otherwise 2 RX10 G := ⟨⟨B.exec, B.bytes, hml, findClass_of_methodNamed B.named, fun w hw => atoms_spec (ws := wm yX10_otherwise cX10_otherwise 2 (some .int)) B.pre w (List.mem_cons_of_mem _ hw)⟩, B.notSynchronized, hK⟩
  have hl := lv_entry ([.ref (gR G 142), .int a1]) (n := 2) (Nat.le_of_ble_eq_true rfl)
  rw [lg_entry_eq]
  generalize (lg_sl ([.ref (gR G 142), .int a1]) ++ List.replicate (2 - (lg_sl ([.ref (gR G 142), .int a1])).length) Slot.unset).toArray = ls at hl ⊢
  exact sfX10_otherwise C B.returns  ⟨hP, va_S.rf⟩ hl h
def BX10_lowest_19 (r5 : Int32 → Int32 → Int32 → St → Option (Int32 × St)) (l0 : Int32) (l1 : Int32) (l2 : Int32) (S : St) : Option (Int32 × St) :=
  vl (l2 + (-1)) fun x1 => (r5 l0 l1 x1 S)
set_option maxHeartbeats 4000000 in
set_option maxRecDepth 20000 in
theorem sBX10_lowest_19 (C : Cx p s m args meth c cX10_lowest 3 RX10 G) (hr : meth.sig.returnType = some .int) {r5 : Int32 → Int32 → Int32 → St → Option (Int32 × St)} (hr5 : ∀ (l0 : Int32) (l1 : Int32) (l2 : Int32) (S : St) (res : (Int32 × St)) (H : Heap) (locs : List Loc) (ls : Array Slot), Dy G S s H locs → lv_has ls 3 [(0, .int l0), (1, .int l1), (2, .int l2)] → r5 l0 l1 l2 S = some res → W p l e (rmL 4 0 0) s m args below meth c H locs 0 0 (MQ below (QI G res.1 res.2) args s 0 0 (Ab G)) (F0 m 5 ls [])) {l0 : Int32} {l1 : Int32} {l2 : Int32} {S : St} {res : (Int32 × St)} {H : Heap} {locs : List Loc} {ls : Array Slot}  (hd : Dy G S s H locs) (hl : lv_has ls 3 [(0, .int l0), (1, .int l1), (2, .int l2)]) (h : BX10_lowest_19 r5 l0 l1 l2 S = some res) : W p l e (rmL 4 0 0) s m args below meth c H locs 0 0 (MQ below (QI G res.1 res.2) args s 0 0 (Ab G)) (F0 m 19 ls []) := by
  unfold BX10_lowest_19 at h
  have hx := C.1.1
  have hb := C.1.2.1
  refine R_vi h (fun x1 ex1 h => ?_)
  refine lv_iinc (v := x1) (lv' := [(2, .int x1), (0, .int l0), (1, .int l1)]) hx hb dX10_lowest_19 hl (k := 2) rfl (by rw [ex1]; rfl) (by decide) rfl (fun ls hl => ?_)
  refine lv_goto (tgt := 5) hx hb dX10_lowest_22 (by decide) ?_
  exact hr5 l0 l1 x1 _ _ _ _ _  hd (lv_sub hl [1, 2, 0] rfl) h
def KX10_lowest_5 (r5 : Int32 → Int32 → Int32 → St → Option (Int32 × St)) (l0 : Int32) (l1 : Int32) (l2 : Int32) (S : St) : Option (Int32 × St) :=
  (if l2 < 0 then ri l1 S else bd (fX10_isOf l0 l2 S) fun x2 S => (if x2 = 0 then (BX10_lowest_19 r5 l0 l1 l2 S) else (BX10_lowest_19 r5 l0 l2 l2 S)))
set_option maxHeartbeats 4000000 in
set_option maxRecDepth 20000 in
theorem sKX10_lowest_5 (C : Cx p s m args meth c cX10_lowest 3 RX10 G) (hr : meth.sig.returnType = some .int) {r5 : Int32 → Int32 → Int32 → St → Option (Int32 × St)} (hr5 : ∀ (l0 : Int32) (l1 : Int32) (l2 : Int32) (S : St) (res : (Int32 × St)) (H : Heap) (locs : List Loc) (ls : Array Slot), Dy G S s H locs → lv_has ls 3 [(0, .int l0), (1, .int l1), (2, .int l2)] → r5 l0 l1 l2 S = some res → W p l e (rmL 4 0 0) s m args below meth c H locs 0 0 (MQ below (QI G res.1 res.2) args s 0 0 (Ab G)) (F0 m 5 ls [])) {l0 : Int32} {l1 : Int32} {l2 : Int32} {S : St} {res : (Int32 × St)} {H : Heap} {locs : List Loc} {ls : Array Slot}  (hd : Dy G S s H locs) (hl : lv_has ls 3 [(0, .int l0), (1, .int l1), (2, .int l2)]) (h : KX10_lowest_5 r5 l0 l1 l2 S = some res) : W p l e (rmL 4 0 0) s m args below meth c H locs 0 0 (MQ below (QI G res.1 res.2) args s 0 0 (Ab G)) (F0 m 5 ls []) := by
  unfold KX10_lowest_5 at h
  have hx := C.1.1
  have hb := C.1.2.1
  refine lv_iload_n hx hb dX10_lowest_5 rfl (lv_at hl 2 rfl) ?_
  refine lv_if_lt (tgt := 25) hx hb dX10_lowest_6 (by decide) (fun c1 => ?_) (fun c1 => ?_)
  · rw [if_pos c1] at h
    refine lv_iload_n hx hb dX10_lowest_25 rfl (lv_at hl 1 rfl) ?_
    exact R_iret C hr hd h dX10_lowest_26
  · rw [if_neg c1] at h
    refine lv_iload_n hx hb dX10_lowest_9 rfl (lv_at hl 0 rfl) ?_
    refine lv_iload_n hx hb dX10_lowest_10 rfl (lv_at hl 2 rfl) ?_
    obtain ⟨x2, S1, hc, h⟩ := bd_some h
    refine R_cSi C hd (ccX10_isOf l G  hc) kX10_298  hl.1 ⟨by decide, by decide⟩ rfl rfl (Nat.le_of_ble_eq_true rfl) dX10_lowest_11 ⟨Nat.zero_le _, Nat.zero_le _⟩ (fun H locs hd => ?_)
    generalize S1 = S at h hd
    refine lv_if_eq (tgt := 19) hx hb dX10_lowest_14 (by decide) (fun c3 => ?_) (fun c3 => ?_)
    · rw [if_pos c3] at h
      exact sBX10_lowest_19 C hr hr5  hd (lv_sub hl [0, 1, 2] rfl) h
    · rw [if_neg c3] at h
      refine lv_iload_n hx hb dX10_lowest_17 rfl (lv_at hl 2 rfl) ?_
      refine lv_istore_n (lv' := [(1, .int l2), (0, .int l0), (2, .int l2)]) hx hb dX10_lowest_18 rfl hl (by decide) rfl (fun ls hl => ?_)
      exact sBX10_lowest_19 C hr hr5  hd (lv_sub hl [1, 0, 2] rfl) h
def LX10_lowest_5 : Nat → Int32 → Int32 → Int32 → St → Option (Int32 × St)
  | 0 => fun _ _ _ _ => none
  | n + 1 => fun l0 l1 l2 S => KX10_lowest_5 (LX10_lowest_5 n) l0 l1 l2 S
theorem sLX10_lowest_5 (C : Cx p s m args meth c cX10_lowest 3 RX10 G) (hr : meth.sig.returnType = some .int) : ∀ (n : Nat) (l0 : Int32) (l1 : Int32) (l2 : Int32) (S : St) (res : (Int32 × St)) (H : Heap) (locs : List Loc) (ls : Array Slot), Dy G S s H locs → lv_has ls 3 [(0, .int l0), (1, .int l1), (2, .int l2)] → LX10_lowest_5 n l0 l1 l2 S = some res → W p l e (rmL 4 0 0) s m args below meth c H locs 0 0 (MQ below (QI G res.1 res.2) args s 0 0 (Ab G)) (F0 m 5 ls []) := by
  intro n
  induction n with
  | zero => intro l0 l1 l2 S res H locs ls  hd hl h; cases h
  | succ n ih =>
    intro l0 l1 l2 S res H locs ls  hd hl h
    exact sKX10_lowest_5 C hr ih  hd hl h
def fX10_lowest (a0 : Int32) (S : St) : Option (Int32 × St) :=
  (LX10_lowest_5 FU a0 ((-1)) 7 S)
set_option maxHeartbeats 4000000 in
set_option maxRecDepth 20000 in
theorem sfX10_lowest (C : Cx p s m args meth c cX10_lowest 3 RX10 G) (hr : meth.sig.returnType = some .int) {a0 : Int32} {S : St} {res : (Int32 × St)} {H : Heap} {locs : List Loc} {ls : Array Slot}  (hd : Dy G S s H locs) (hl : lv_has ls 3 [(0, .int a0)]) (h : fX10_lowest a0 S = some res) : W p l e (rmL 4 0 0) s m args below meth c H locs 0 0 (MQ below (QI G res.1 res.2) args s 0 0 (Ab G)) (F0 m 0 ls []) := by
  unfold fX10_lowest at h
  have hx := C.1.1
  have hb := C.1.2.1
  refine lv_iconst (v := -1) hx hb dX10_lowest_0 (by decide) ?_
  refine lv_istore_n (lv' := [(1, .int ((-1))), (0, .int a0)]) hx hb dX10_lowest_1 rfl hl (by decide) rfl (fun ls hl => ?_)
  refine lv_bipush (v := 7) hx hb dX10_lowest_2 (by decide) ?_
  refine lv_istore_n (lv' := [(2, .int 7), (1, .int ((-1))), (0, .int a0)]) hx hb dX10_lowest_4 rfl hl (by decide) rfl (fun ls hl => ?_)
  exact sLX10_lowest_5 C hr _ a0 ((-1)) 7 _ _ _ _ _  hd (lv_sub hl [2, 1, 0] rfl) h
set_option maxRecDepth 20000 in
theorem ccX10_lowest (l : Launch) (G : Gt) {a0 : Int32} {S : St} {res : (Int32 × St)}  (h : fX10_lowest a0 S = some res) : Met l yX10_lowest (wm yX10_lowest cX10_lowest 3 (some .int)) (rmL 4 0 0) (PcW G S [.int a0]) (QI G res.1 res.2) 0 0 (Ab G) := by
  refine Met.ofW (cc := cX10_lowest) (maxL := 3) (ret := (some .int)) (by decide) rfl ?_
  intro p e s m args below meth c s₁ B hml hv
  obtain ⟨rfl, hK, hP⟩ := hv
  have C : Cx p s m _ meth c cX10_lowest 3 RX10 G := ⟨⟨B.exec, B.bytes, hml, findClass_of_methodNamed B.named, fun w hw => atoms_spec (ws := wm yX10_lowest cX10_lowest 3 (some .int)) B.pre w (List.mem_cons_of_mem _ hw)⟩, B.notSynchronized, hK⟩
  have hl := lv_entry ([.int a0]) (n := 3) (Nat.le_of_ble_eq_true rfl)
  rw [lg_entry_eq]
  generalize (lg_sl ([.int a0]) ++ List.replicate (3 - (lg_sl ([.int a0])).length) Slot.unset).toArray = ls at hl ⊢
  exact sfX10_lowest C B.returns  ⟨hP, va_S.rf⟩ hl h
def BX10_unlike_79 (r4 : Int32 → Int32 → Int32 → St → Option (Int32 × St)) (l1 : Int32) (l3 : Int32) (s0 : Int32) (s1 : Int32) (S : St) : Option (Int32 × St) :=
  vl (s0 + s1) fun x1 => vl (l3 + 1) fun x2 => (r4 l1 x1 x2 S)
set_option maxHeartbeats 4000000 in
set_option maxRecDepth 20000 in
theorem sBX10_unlike_79 (C : Cx p s m args meth c cX10_unlike 6 RX10 G) (hr : meth.sig.returnType = some .int) {r4 : Int32 → Int32 → Int32 → St → Option (Int32 × St)} (hr4 : ∀ (l1 : Int32) (l2 : Int32) (l3 : Int32) (S : St) (res : (Int32 × St)) (H : Heap) (locs : List Loc) (ls : Array Slot), Dy G S s H locs → lv_has ls 6 [(0, .ref (gR G 142)), (1, .int l1), (2, .int l2), (3, .int l3)] → r4 l1 l2 l3 S = some res → W p l e (rmL 3 0 0) s m args below meth c H locs 0 0 (MQ below (QI G res.1 res.2) args s 0 0 (Ab G)) (F0 m 4 ls [])) {l1 : Int32} {l3 : Int32} {s0 : Int32} {s1 : Int32} {S : St} {res : (Int32 × St)} {H : Heap} {locs : List Loc} {ls : Array Slot}  (hd : Dy G S s H locs) (hl : lv_has ls 6 [(0, .ref (gR G 142)), (1, .int l1), (3, .int l3)]) (h : BX10_unlike_79 r4 l1 l3 s0 s1 S = some res) : W p l e (rmL 3 0 0) s m args below meth c H locs 0 0 (MQ below (QI G res.1 res.2) args s 0 0 (Ab G)) (F0 m 79 ls [.int s1, .int s0]) := by
  unfold BX10_unlike_79 at h
  have hx := C.1.1
  have hb := C.1.2.1
  refine lv_iadd hx hb dX10_unlike_79 ?_
  refine R_vl h (fun x1 h => ?_)
  refine lv_istore_n (lv' := [(2, .int x1), (0, .ref (gR G 142)), (1, .int l1), (3, .int l3)]) hx hb dX10_unlike_80 rfl hl (by decide) rfl (fun ls hl => ?_)
  refine R_vi h (fun x2 ex2 h => ?_)
  refine lv_iinc (v := x2) (lv' := [(3, .int x2), (2, .int x1), (0, .ref (gR G 142)), (1, .int l1)]) hx hb dX10_unlike_81 hl (k := 3) rfl (by rw [ex2]; rfl) (by decide) rfl (fun ls hl => ?_)
  refine lv_goto (tgt := 4) hx hb dX10_unlike_84 (by decide) ?_
  exact hr4 l1 x1 x2 _ _ _ _ _  hd (lv_sub hl [2, 3, 1, 0] rfl) h
def BX10_unlike_68 (r4 : Int32 → Int32 → Int32 → St → Option (Int32 × St)) (l1 : Int32) (l2 : Int32) (l3 : Int32) (l4 : Int32) (S : St) : Option (Int32 × St) :=
  (if l4 = 0 then (BX10_unlike_79 r4 l1 l3 l2 0 S) else (BX10_unlike_79 r4 l1 l3 l2 1 S))
set_option maxHeartbeats 4000000 in
set_option maxRecDepth 20000 in
theorem sBX10_unlike_68 (C : Cx p s m args meth c cX10_unlike 6 RX10 G) (hr : meth.sig.returnType = some .int) {r4 : Int32 → Int32 → Int32 → St → Option (Int32 × St)} (hr4 : ∀ (l1 : Int32) (l2 : Int32) (l3 : Int32) (S : St) (res : (Int32 × St)) (H : Heap) (locs : List Loc) (ls : Array Slot), Dy G S s H locs → lv_has ls 6 [(0, .ref (gR G 142)), (1, .int l1), (2, .int l2), (3, .int l3)] → r4 l1 l2 l3 S = some res → W p l e (rmL 3 0 0) s m args below meth c H locs 0 0 (MQ below (QI G res.1 res.2) args s 0 0 (Ab G)) (F0 m 4 ls [])) {l1 : Int32} {l2 : Int32} {l3 : Int32} {l4 : Int32} {S : St} {res : (Int32 × St)} {H : Heap} {locs : List Loc} {ls : Array Slot}  (hd : Dy G S s H locs) (hl : lv_has ls 6 [(0, .ref (gR G 142)), (1, .int l1), (2, .int l2), (3, .int l3), (4, .int l4)]) (h : BX10_unlike_68 r4 l1 l2 l3 l4 S = some res) : W p l e (rmL 3 0 0) s m args below meth c H locs 0 0 (MQ below (QI G res.1 res.2) args s 0 0 (Ab G)) (F0 m 68 ls []) := by
  unfold BX10_unlike_68 at h
  have hx := C.1.1
  have hb := C.1.2.1
  refine lv_iload_n hx hb dX10_unlike_68 rfl (lv_at hl 2 rfl) ?_
  refine lv_iload hx hb dX10_unlike_69 (lv_at hl 4 rfl) ?_
  refine lv_if_eq (tgt := 78) hx hb dX10_unlike_71 (by decide) (fun c1 => ?_) (fun c1 => ?_)
  · rw [if_pos c1] at h
    refine lv_iconst (v := 0) hx hb dX10_unlike_78 (by decide) ?_
    exact sBX10_unlike_79 C hr hr4  hd (lv_sub hl [0, 1, 3] rfl) h
  · rw [if_neg c1] at h
    refine lv_iconst (v := 1) hx hb dX10_unlike_74 (by decide) ?_
    refine lv_goto (tgt := 79) hx hb dX10_unlike_75 (by decide) ?_
    exact sBX10_unlike_79 C hr hr4  hd (lv_sub hl [0, 1, 3] rfl) h
def BX10_unlike_60 (r4 : Int32 → Int32 → Int32 → St → Option (Int32 × St)) (r18 : Int32 → Int32 → Int32 → Int32 → Int32 → St → Option (Int32 × St)) (l1 : Int32) (l2 : Int32) (l3 : Int32) (l5 : Int32) (s0 : Int32) (S : St) : Option (Int32 × St) :=
  vl (l5 + 1) fun x1 => (r18 l1 l2 l3 s0 x1 S)
set_option maxHeartbeats 4000000 in
set_option maxRecDepth 20000 in
theorem sBX10_unlike_60 (C : Cx p s m args meth c cX10_unlike 6 RX10 G) (hr : meth.sig.returnType = some .int) {r4 : Int32 → Int32 → Int32 → St → Option (Int32 × St)} {r18 : Int32 → Int32 → Int32 → Int32 → Int32 → St → Option (Int32 × St)} (hr4 : ∀ (l1 : Int32) (l2 : Int32) (l3 : Int32) (S : St) (res : (Int32 × St)) (H : Heap) (locs : List Loc) (ls : Array Slot), Dy G S s H locs → lv_has ls 6 [(0, .ref (gR G 142)), (1, .int l1), (2, .int l2), (3, .int l3)] → r4 l1 l2 l3 S = some res → W p l e (rmL 3 0 0) s m args below meth c H locs 0 0 (MQ below (QI G res.1 res.2) args s 0 0 (Ab G)) (F0 m 4 ls [])) (hr18 : ∀ (l1 : Int32) (l2 : Int32) (l3 : Int32) (l4 : Int32) (l5 : Int32) (S : St) (res : (Int32 × St)) (H : Heap) (locs : List Loc) (ls : Array Slot), Dy G S s H locs → lv_has ls 6 [(0, .ref (gR G 142)), (1, .int l1), (2, .int l2), (3, .int l3), (4, .int l4), (5, .int l5)] → r18 l1 l2 l3 l4 l5 S = some res → W p l e (rmL 3 0 0) s m args below meth c H locs 0 0 (MQ below (QI G res.1 res.2) args s 0 0 (Ab G)) (F0 m 18 ls [])) {l1 : Int32} {l2 : Int32} {l3 : Int32} {l5 : Int32} {s0 : Int32} {S : St} {res : (Int32 × St)} {H : Heap} {locs : List Loc} {ls : Array Slot}  (hd : Dy G S s H locs) (hl : lv_has ls 6 [(0, .ref (gR G 142)), (1, .int l1), (2, .int l2), (3, .int l3), (5, .int l5)]) (h : BX10_unlike_60 r4 r18 l1 l2 l3 l5 s0 S = some res) : W p l e (rmL 3 0 0) s m args below meth c H locs 0 0 (MQ below (QI G res.1 res.2) args s 0 0 (Ab G)) (F0 m 60 ls [.int s0]) := by
  unfold BX10_unlike_60 at h
  have hx := C.1.1
  have hb := C.1.2.1
  refine lv_istore (lv' := [(4, .int s0), (0, .ref (gR G 142)), (1, .int l1), (2, .int l2), (3, .int l3), (5, .int l5)]) hx hb dX10_unlike_60 hl (by decide) rfl (fun ls hl => ?_)
  refine R_vi h (fun x1 ex1 h => ?_)
  refine lv_iinc (v := x1) (lv' := [(5, .int x1), (4, .int s0), (0, .ref (gR G 142)), (1, .int l1), (2, .int l2), (3, .int l3)]) hx hb dX10_unlike_62 hl (k := 5) rfl (by rw [ex1]; rfl) (by decide) rfl (fun ls hl => ?_)
  refine lv_goto (tgt := 18) hx hb dX10_unlike_65 (by decide) ?_
  exact hr18 l1 l2 l3 s0 x1 _ _ _ _ _  hd (lv_sub hl [2, 3, 4, 5, 1, 0] rfl) h
def KX10_unlike_18 (r4 : Int32 → Int32 → Int32 → St → Option (Int32 × St)) (r18 : Int32 → Int32 → Int32 → Int32 → Int32 → St → Option (Int32 × St)) (l1 : Int32) (l2 : Int32) (l3 : Int32) (l4 : Int32) (l5 : Int32) (S : St) : Option (Int32 × St) :=
  (if l3 ≤ l5 then (BX10_unlike_68 r4 l1 l2 l3 l4 S) else (if l4 = 0 then (BX10_unlike_68 r4 l1 l2 l3 l4 S) else rd S 179 ((8 * l5) + l1) fun x4 => rd S 179 ((8 * l3) + l1) fun x6 => (if x4 = x6 then (BX10_unlike_60 r4 r18 l1 l2 l3 l5 0 S) else (BX10_unlike_60 r4 r18 l1 l2 l3 l5 1 S))))
set_option maxHeartbeats 4000000 in
set_option maxRecDepth 20000 in
theorem sKX10_unlike_18 (C : Cx p s m args meth c cX10_unlike 6 RX10 G) (hr : meth.sig.returnType = some .int) {r4 : Int32 → Int32 → Int32 → St → Option (Int32 × St)} {r18 : Int32 → Int32 → Int32 → Int32 → Int32 → St → Option (Int32 × St)} (hr4 : ∀ (l1 : Int32) (l2 : Int32) (l3 : Int32) (S : St) (res : (Int32 × St)) (H : Heap) (locs : List Loc) (ls : Array Slot), Dy G S s H locs → lv_has ls 6 [(0, .ref (gR G 142)), (1, .int l1), (2, .int l2), (3, .int l3)] → r4 l1 l2 l3 S = some res → W p l e (rmL 3 0 0) s m args below meth c H locs 0 0 (MQ below (QI G res.1 res.2) args s 0 0 (Ab G)) (F0 m 4 ls [])) (hr18 : ∀ (l1 : Int32) (l2 : Int32) (l3 : Int32) (l4 : Int32) (l5 : Int32) (S : St) (res : (Int32 × St)) (H : Heap) (locs : List Loc) (ls : Array Slot), Dy G S s H locs → lv_has ls 6 [(0, .ref (gR G 142)), (1, .int l1), (2, .int l2), (3, .int l3), (4, .int l4), (5, .int l5)] → r18 l1 l2 l3 l4 l5 S = some res → W p l e (rmL 3 0 0) s m args below meth c H locs 0 0 (MQ below (QI G res.1 res.2) args s 0 0 (Ab G)) (F0 m 18 ls [])) {l1 : Int32} {l2 : Int32} {l3 : Int32} {l4 : Int32} {l5 : Int32} {S : St} {res : (Int32 × St)} {H : Heap} {locs : List Loc} {ls : Array Slot}  (hd : Dy G S s H locs) (hl : lv_has ls 6 [(0, .ref (gR G 142)), (1, .int l1), (2, .int l2), (3, .int l3), (4, .int l4), (5, .int l5)]) (h : KX10_unlike_18 r4 r18 l1 l2 l3 l4 l5 S = some res) : W p l e (rmL 3 0 0) s m args below meth c H locs 0 0 (MQ below (QI G res.1 res.2) args s 0 0 (Ab G)) (F0 m 18 ls []) := by
  unfold KX10_unlike_18 at h
  have hx := C.1.1
  have hb := C.1.2.1
  refine lv_iload hx hb dX10_unlike_18 (lv_at hl 5 rfl) ?_
  refine lv_iload_n hx hb dX10_unlike_20 rfl (lv_at hl 3 rfl) ?_
  refine lv_icmp_ge (tgt := 68) hx hb dX10_unlike_21 (by decide) (fun c1 => ?_) (fun c1 => ?_)
  · rw [if_pos c1] at h
    exact sBX10_unlike_68 C hr hr4  hd (lv_sub hl [0, 1, 2, 3, 4] rfl) h
  · rw [if_neg c1] at h
    refine lv_iload hx hb dX10_unlike_24 (lv_at hl 4 rfl) ?_
    refine lv_if_eq (tgt := 68) hx hb dX10_unlike_26 (by decide) (fun c2 => ?_) (fun c2 => ?_)
    · rw [if_pos c2] at h
      exact sBX10_unlike_68 C hr hr4  hd (lv_sub hl [0, 1, 2, 3, 4] rfl) h
    · rw [if_neg c2] at h
      refine lv_aload_n hx hb dX10_unlike_29 rfl (lv_at hl 0 rfl) ?_
      refine gX10_146 C hd (rfl : kd 142 = 10) (q := 179) rfl dX10_unlike_30 (fun y3 => ?_)
      refine lv_bipush (v := 8) hx hb dX10_unlike_33 (by decide) ?_
      refine lv_iload hx hb dX10_unlike_35 (lv_at hl 5 rfl) ?_
      refine lv_imul hx hb dX10_unlike_37 ?_
      refine lv_iload_n hx hb dX10_unlike_38 rfl (lv_at hl 1 rfl) ?_
      refine lv_iadd hx hb dX10_unlike_39 ?_
      refine R_iald C hd y3 h dX10_unlike_40 (fun x4 h => ?_)
      refine lv_aload_n hx hb dX10_unlike_41 rfl (lv_at hl 0 rfl) ?_
      refine gX10_146 C hd (rfl : kd 142 = 10) (q := 179) rfl dX10_unlike_42 (fun y5 => ?_)
      refine lv_bipush (v := 8) hx hb dX10_unlike_45 (by decide) ?_
      refine lv_iload_n hx hb dX10_unlike_47 rfl (lv_at hl 3 rfl) ?_
      refine lv_imul hx hb dX10_unlike_48 ?_
      refine lv_iload_n hx hb dX10_unlike_49 rfl (lv_at hl 1 rfl) ?_
      refine lv_iadd hx hb dX10_unlike_50 ?_
      refine R_iald C hd y5 h dX10_unlike_51 (fun x6 h => ?_)
      refine lv_icmp_eq (tgt := 59) hx hb dX10_unlike_52 (by decide) (fun c7 => ?_) (fun c7 => ?_)
      · rw [if_pos c7] at h
        refine lv_iconst (v := 0) hx hb dX10_unlike_59 (by decide) ?_
        exact sBX10_unlike_60 C hr hr4 hr18  hd (lv_sub hl [0, 1, 2, 3, 5] rfl) h
      · rw [if_neg c7] at h
        refine lv_iconst (v := 1) hx hb dX10_unlike_55 (by decide) ?_
        refine lv_goto (tgt := 60) hx hb dX10_unlike_56 (by decide) ?_
        exact sBX10_unlike_60 C hr hr4 hr18  hd (lv_sub hl [0, 1, 2, 3, 5] rfl) h
def LX10_unlike_18 (r4 : Int32 → Int32 → Int32 → St → Option (Int32 × St)) : Nat → Int32 → Int32 → Int32 → Int32 → Int32 → St → Option (Int32 × St)
  | 0 => fun _ _ _ _ _ _ => none
  | n + 1 => fun l1 l2 l3 l4 l5 S => KX10_unlike_18 r4 (LX10_unlike_18 r4 n) l1 l2 l3 l4 l5 S
theorem sLX10_unlike_18 (C : Cx p s m args meth c cX10_unlike 6 RX10 G) (hr : meth.sig.returnType = some .int) {r4 : Int32 → Int32 → Int32 → St → Option (Int32 × St)} (hr4 : ∀ (l1 : Int32) (l2 : Int32) (l3 : Int32) (S : St) (res : (Int32 × St)) (H : Heap) (locs : List Loc) (ls : Array Slot), Dy G S s H locs → lv_has ls 6 [(0, .ref (gR G 142)), (1, .int l1), (2, .int l2), (3, .int l3)] → r4 l1 l2 l3 S = some res → W p l e (rmL 3 0 0) s m args below meth c H locs 0 0 (MQ below (QI G res.1 res.2) args s 0 0 (Ab G)) (F0 m 4 ls [])) : ∀ (n : Nat) (l1 : Int32) (l2 : Int32) (l3 : Int32) (l4 : Int32) (l5 : Int32) (S : St) (res : (Int32 × St)) (H : Heap) (locs : List Loc) (ls : Array Slot), Dy G S s H locs → lv_has ls 6 [(0, .ref (gR G 142)), (1, .int l1), (2, .int l2), (3, .int l3), (4, .int l4), (5, .int l5)] → LX10_unlike_18 r4 n l1 l2 l3 l4 l5 S = some res → W p l e (rmL 3 0 0) s m args below meth c H locs 0 0 (MQ below (QI G res.1 res.2) args s 0 0 (Ab G)) (F0 m 18 ls []) := by
  intro n
  induction n with
  | zero => intro l1 l2 l3 l4 l5 S res H locs ls  hd hl h; cases h
  | succ n ih =>
    intro l1 l2 l3 l4 l5 S res H locs ls  hd hl h
    exact sKX10_unlike_18 C hr hr4 ih  hd hl h
def KX10_unlike_4 (r4 : Int32 → Int32 → Int32 → St → Option (Int32 × St)) (l1 : Int32) (l2 : Int32) (l3 : Int32) (S : St) : Option (Int32 × St) :=
  (if (S 142 55) ≤ l3 then ri l2 S else (LX10_unlike_18 r4 FU l1 l2 l3 1 0 S))
set_option maxHeartbeats 4000000 in
set_option maxRecDepth 20000 in
theorem sKX10_unlike_4 (C : Cx p s m args meth c cX10_unlike 6 RX10 G) (hr : meth.sig.returnType = some .int) {r4 : Int32 → Int32 → Int32 → St → Option (Int32 × St)} (hr4 : ∀ (l1 : Int32) (l2 : Int32) (l3 : Int32) (S : St) (res : (Int32 × St)) (H : Heap) (locs : List Loc) (ls : Array Slot), Dy G S s H locs → lv_has ls 6 [(0, .ref (gR G 142)), (1, .int l1), (2, .int l2), (3, .int l3)] → r4 l1 l2 l3 S = some res → W p l e (rmL 3 0 0) s m args below meth c H locs 0 0 (MQ below (QI G res.1 res.2) args s 0 0 (Ab G)) (F0 m 4 ls [])) {l1 : Int32} {l2 : Int32} {l3 : Int32} {S : St} {res : (Int32 × St)} {H : Heap} {locs : List Loc} {ls : Array Slot}  (hd : Dy G S s H locs) (hl : lv_has ls 6 [(0, .ref (gR G 142)), (1, .int l1), (2, .int l2), (3, .int l3)]) (h : KX10_unlike_4 r4 l1 l2 l3 S = some res) : W p l e (rmL 3 0 0) s m args below meth c H locs 0 0 (MQ below (QI G res.1 res.2) args s 0 0 (Ab G)) (F0 m 4 ls []) := by
  unfold KX10_unlike_4 at h
  have hx := C.1.1
  have hb := C.1.2.1
  refine lv_iload_n hx hb dX10_unlike_4 rfl (lv_at hl 3 rfl) ?_
  refine lv_aload_n hx hb dX10_unlike_5 rfl (lv_at hl 0 rfl) ?_
  refine gX10_452 C hd (rfl : kd 142 = 10) dX10_unlike_6 ?_
  refine lv_icmp_ge (tgt := 87) hx hb dX10_unlike_9 (by decide) (fun c1 => ?_) (fun c1 => ?_)
  · rw [if_pos c1] at h
    refine lv_iload_n hx hb dX10_unlike_87 rfl (lv_at hl 2 rfl) ?_
    exact R_iret C hr hd h dX10_unlike_88
  · rw [if_neg c1] at h
    refine lv_iconst (v := 1) hx hb dX10_unlike_12 (by decide) ?_
    refine lv_istore (lv' := [(4, .int 1), (0, .ref (gR G 142)), (1, .int l1), (2, .int l2), (3, .int l3)]) hx hb dX10_unlike_13 hl (by decide) rfl (fun ls hl => ?_)
    refine lv_iconst (v := 0) hx hb dX10_unlike_15 (by decide) ?_
    refine lv_istore (lv' := [(5, .int 0), (4, .int 1), (0, .ref (gR G 142)), (1, .int l1), (2, .int l2), (3, .int l3)]) hx hb dX10_unlike_16 hl (by decide) rfl (fun ls hl => ?_)
    exact sLX10_unlike_18 C hr hr4 _ l1 l2 l3 1 0 _ _ _ _ _  hd (lv_sub hl [2, 3, 4, 5, 1, 0] rfl) h
def LX10_unlike_4 : Nat → Int32 → Int32 → Int32 → St → Option (Int32 × St)
  | 0 => fun _ _ _ _ => none
  | n + 1 => fun l1 l2 l3 S => KX10_unlike_4 (LX10_unlike_4 n) l1 l2 l3 S
theorem sLX10_unlike_4 (C : Cx p s m args meth c cX10_unlike 6 RX10 G) (hr : meth.sig.returnType = some .int) : ∀ (n : Nat) (l1 : Int32) (l2 : Int32) (l3 : Int32) (S : St) (res : (Int32 × St)) (H : Heap) (locs : List Loc) (ls : Array Slot), Dy G S s H locs → lv_has ls 6 [(0, .ref (gR G 142)), (1, .int l1), (2, .int l2), (3, .int l3)] → LX10_unlike_4 n l1 l2 l3 S = some res → W p l e (rmL 3 0 0) s m args below meth c H locs 0 0 (MQ below (QI G res.1 res.2) args s 0 0 (Ab G)) (F0 m 4 ls []) := by
  intro n
  induction n with
  | zero => intro l1 l2 l3 S res H locs ls  hd hl h; cases h
  | succ n ih =>
    intro l1 l2 l3 S res H locs ls  hd hl h
    exact sKX10_unlike_4 C hr ih  hd hl h
def fX10_unlike (a1 : Int32) (S : St) : Option (Int32 × St) :=
  (LX10_unlike_4 FU a1 0 0 S)
set_option maxHeartbeats 4000000 in
set_option maxRecDepth 20000 in
theorem sfX10_unlike (C : Cx p s m args meth c cX10_unlike 6 RX10 G) (hr : meth.sig.returnType = some .int) {a1 : Int32} {S : St} {res : (Int32 × St)} {H : Heap} {locs : List Loc} {ls : Array Slot}  (hd : Dy G S s H locs) (hl : lv_has ls 6 [(0, .ref (gR G 142)), (1, .int a1)]) (h : fX10_unlike a1 S = some res) : W p l e (rmL 3 0 0) s m args below meth c H locs 0 0 (MQ below (QI G res.1 res.2) args s 0 0 (Ab G)) (F0 m 0 ls []) := by
  unfold fX10_unlike at h
  have hx := C.1.1
  have hb := C.1.2.1
  refine lv_iconst (v := 0) hx hb dX10_unlike_0 (by decide) ?_
  refine lv_istore_n (lv' := [(2, .int 0), (0, .ref (gR G 142)), (1, .int a1)]) hx hb dX10_unlike_1 rfl hl (by decide) rfl (fun ls hl => ?_)
  refine lv_iconst (v := 0) hx hb dX10_unlike_2 (by decide) ?_
  refine lv_istore_n (lv' := [(3, .int 0), (2, .int 0), (0, .ref (gR G 142)), (1, .int a1)]) hx hb dX10_unlike_3 rfl hl (by decide) rfl (fun ls hl => ?_)
  exact sLX10_unlike_4 C hr _ a1 0 0 _ _ _ _ _  hd (lv_sub hl [2, 3, 1, 0] rfl) h
set_option maxRecDepth 20000 in
theorem ccX10_unlike (l : Launch) (G : Gt) {a1 : Int32} {S : St} {res : (Int32 × St)}  (h : fX10_unlike a1 S = some res) : Met l yX10_unlike (wm yX10_unlike cX10_unlike 6 (some .int)) (rmL 3 0 0) (PcW G S [.ref (gR G 142), .int a1]) (QI G res.1 res.2) 0 0 (Ab G) := by
  refine Met.ofW (cc := cX10_unlike) (maxL := 6) (ret := (some .int)) (by decide) rfl ?_
  intro p e s m args below meth c s₁ B hml hv
  obtain ⟨rfl, hK, hP⟩ := hv
  have C : Cx p s m _ meth c cX10_unlike 6 RX10 G := ⟨⟨B.exec, B.bytes, hml, findClass_of_methodNamed B.named, fun w hw => atoms_spec (ws := wm yX10_unlike cX10_unlike 6 (some .int)) B.pre w (List.mem_cons_of_mem _ hw)⟩, B.notSynchronized, hK⟩
  have hl := lv_entry ([.ref (gR G 142), .int a1]) (n := 6) (Nat.le_of_ble_eq_true rfl)
  rw [lg_entry_eq]
  generalize (lg_sl ([.ref (gR G 142), .int a1]) ++ List.replicate (6 - (lg_sl ([.ref (gR G 142), .int a1])).length) Slot.unset).toArray = ls at hl ⊢
  exact sfX10_unlike C B.returns  ⟨hP, va_S.rf⟩ hl h
def BX10_listen_14  (S : St) : Option (Int32 × St) :=
  bd (fX10_fail 1 S) fun x1 S => ri x1 S
set_option maxHeartbeats 4000000 in
set_option maxRecDepth 20000 in
theorem sBX10_listen_14 (C : Cx p s m args meth c cX10_listen 6 RX10 G) (hr : meth.sig.returnType = some .int)  {S : St} {res : (Int32 × St)} {H : Heap} {locs : List Loc} {ls : Array Slot}  (hd : Dy G S s H locs) (hl : lv_has ls 6 [(0, .ref (gR G 142))]) (h : BX10_listen_14  S = some res) : W p l e (rmL 11 0 0) s m args below meth c H locs 0 0 (MQ below (QI G res.1 res.2) args s 0 0 (Ab G)) (F0 m 14 ls []) := by
  unfold BX10_listen_14 at h
  have hx := C.1.1
  have hb := C.1.2.1
  refine lv_aload_n hx hb dX10_listen_14 rfl (lv_at hl 0 rfl) ?_
  refine lv_iconst (v := 1) hx hb dX10_listen_15 (by decide) ?_
  obtain ⟨x1, S1, hc, h⟩ := bd_some h
  refine R_cVi C hd (ccX10_fail l G  hc) kX10_325 rfl (by decide) (rfl : kd 142 = 10) hl.1 ⟨by decide, by decide⟩ rfl rfl (Nat.le_of_ble_eq_true rfl) dX10_listen_16 ⟨Nat.zero_le _, Nat.zero_le _⟩ (fun H locs hd => ?_)
  generalize S1 = S at h hd
  exact R_iret C hr hd h dX10_listen_19
def BX10_listen_176 (r142 : Int32 → Int32 → Int32 → Int32 → St → Option (Int32 × St)) (l1 : Int32) (l2 : Int32) (l3 : Int32) (l4 : Int32) (S : St) : Option (Int32 × St) :=
  vl (l4 + 1) fun x1 => (r142 l1 l2 l3 x1 S)
set_option maxHeartbeats 4000000 in
set_option maxRecDepth 20000 in
theorem sBX10_listen_176 (C : Cx p s m args meth c cX10_listen 6 RX10 G) (hr : meth.sig.returnType = some .int) {r142 : Int32 → Int32 → Int32 → Int32 → St → Option (Int32 × St)} (hr142 : ∀ (l1 : Int32) (l2 : Int32) (l3 : Int32) (l4 : Int32) (S : St) (res : (Int32 × St)) (H : Heap) (locs : List Loc) (ls : Array Slot), Dy G S s H locs → lv_has ls 6 [(0, .ref (gR G 142)), (1, .int l1), (2, .int l2), (3, .int l3), (4, .int l4)] → r142 l1 l2 l3 l4 S = some res → W p l e (rmL 11 0 0) s m args below meth c H locs 0 0 (MQ below (QI G res.1 res.2) args s 0 0 (Ab G)) (F0 m 142 ls [])) {l1 : Int32} {l2 : Int32} {l3 : Int32} {l4 : Int32} {S : St} {res : (Int32 × St)} {H : Heap} {locs : List Loc} {ls : Array Slot}  (hd : Dy G S s H locs) (hl : lv_has ls 6 [(0, .ref (gR G 142)), (1, .int l1), (2, .int l2), (3, .int l3), (4, .int l4)]) (h : BX10_listen_176 r142 l1 l2 l3 l4 S = some res) : W p l e (rmL 11 0 0) s m args below meth c H locs 0 0 (MQ below (QI G res.1 res.2) args s 0 0 (Ab G)) (F0 m 176 ls []) := by
  unfold BX10_listen_176 at h
  have hx := C.1.1
  have hb := C.1.2.1
  refine R_vi h (fun x1 ex1 h => ?_)
  refine lv_iinc (v := x1) (lv' := [(4, .int x1), (0, .ref (gR G 142)), (1, .int l1), (2, .int l2), (3, .int l3)]) hx hb dX10_listen_176 hl (k := 4) rfl (by rw [ex1]; rfl) (by decide) rfl (fun ls hl => ?_)
  refine lv_goto (tgt := 142) hx hb dX10_listen_179 (by decide) ?_
  exact hr142 l1 l2 l3 x1 _ _ _ _ _  hd (lv_sub hl [1, 2, 3, 4, 0] rfl) h
def KX10_listen_142 (r142 : Int32 → Int32 → Int32 → Int32 → St → Option (Int32 × St)) (l1 : Int32) (l2 : Int32) (l3 : Int32) (l4 : Int32) (S : St) : Option (Int32 × St) :=
  rd S 145 0 fun x2 => (if x2 ≤ l4 then (if l1 = 0 then ri l2 S else ri l3 S) else bd (fX10_unlike l4 S) fun x5 S => (if l3 < x5 then (BX10_listen_176 r142 l1 l4 x5 l4 S) else (BX10_listen_176 r142 l1 l2 l3 l4 S)))
set_option maxHeartbeats 4000000 in
set_option maxRecDepth 20000 in
theorem sKX10_listen_142 (C : Cx p s m args meth c cX10_listen 6 RX10 G) (hr : meth.sig.returnType = some .int) {r142 : Int32 → Int32 → Int32 → Int32 → St → Option (Int32 × St)} (hr142 : ∀ (l1 : Int32) (l2 : Int32) (l3 : Int32) (l4 : Int32) (S : St) (res : (Int32 × St)) (H : Heap) (locs : List Loc) (ls : Array Slot), Dy G S s H locs → lv_has ls 6 [(0, .ref (gR G 142)), (1, .int l1), (2, .int l2), (3, .int l3), (4, .int l4)] → r142 l1 l2 l3 l4 S = some res → W p l e (rmL 11 0 0) s m args below meth c H locs 0 0 (MQ below (QI G res.1 res.2) args s 0 0 (Ab G)) (F0 m 142 ls [])) {l1 : Int32} {l2 : Int32} {l3 : Int32} {l4 : Int32} {S : St} {res : (Int32 × St)} {H : Heap} {locs : List Loc} {ls : Array Slot}  (hd : Dy G S s H locs) (hl : lv_has ls 6 [(0, .ref (gR G 142)), (1, .int l1), (2, .int l2), (3, .int l3), (4, .int l4)]) (h : KX10_listen_142 r142 l1 l2 l3 l4 S = some res) : W p l e (rmL 11 0 0) s m args below meth c H locs 0 0 (MQ below (QI G res.1 res.2) args s 0 0 (Ab G)) (F0 m 142 ls []) := by
  unfold KX10_listen_142 at h
  have hx := C.1.1
  have hb := C.1.2.1
  refine lv_iload hx hb dX10_listen_142 (lv_at hl 4 rfl) ?_
  refine lv_aload_n hx hb dX10_listen_144 rfl (lv_at hl 0 rfl) ?_
  refine gX10_39 C hd (rfl : kd 142 = 10) (q := 145) rfl dX10_listen_145 (fun y1 => ?_)
  refine lv_iconst (v := 0) hx hb dX10_listen_148 (by decide) ?_
  refine R_iald C hd y1 h dX10_listen_149 (fun x2 h => ?_)
  refine lv_icmp_ge (tgt := 182) hx hb dX10_listen_150 (by decide) (fun c3 => ?_) (fun c3 => ?_)
  · rw [if_pos c3] at h
    refine lv_iload_n hx hb dX10_listen_182 rfl (lv_at hl 1 rfl) ?_
    refine lv_if_ne (tgt := 190) hx hb dX10_listen_183 (by decide) (fun c4 => ?_) (fun c4 => ?_)
    · rw [if_neg c4] at h
      refine lv_iload_n hx hb dX10_listen_190 rfl (lv_at hl 3 rfl) ?_
      exact R_iret C hr hd h dX10_listen_191
    · rw [if_pos c4] at h
      refine lv_iload_n hx hb dX10_listen_186 rfl (lv_at hl 2 rfl) ?_
      refine lv_goto (tgt := 191) hx hb dX10_listen_187 (by decide) ?_
      exact R_iret C hr hd h dX10_listen_191
  · rw [if_neg c3] at h
    refine lv_aload_n hx hb dX10_listen_153 rfl (lv_at hl 0 rfl) ?_
    refine lv_iload hx hb dX10_listen_154 (lv_at hl 4 rfl) ?_
    obtain ⟨x5, S1, hc, h⟩ := bd_some h
    refine R_cVi C hd (ccX10_unlike l G  hc) kX10_466 rfl (by decide) (rfl : kd 142 = 10) hl.1 ⟨by decide, by decide⟩ rfl rfl (Nat.le_of_ble_eq_true rfl) dX10_listen_156 ⟨Nat.zero_le _, Nat.zero_le _⟩ (fun H locs hd => ?_)
    generalize S1 = S at h hd
    refine lv_istore (lv' := [(5, .int x5), (0, .ref (gR G 142)), (1, .int l1), (2, .int l2), (3, .int l3), (4, .int l4)]) hx hb dX10_listen_159 hl (by decide) rfl (fun ls hl => ?_)
    refine lv_iload hx hb dX10_listen_161 (lv_at hl 0 rfl) ?_
    refine lv_iload_n hx hb dX10_listen_163 rfl (lv_at hl 4 rfl) ?_
    refine lv_icmp_gt (tgt := 170) hx hb dX10_listen_164 (by decide) (fun c6 => ?_) (fun c6 => ?_)
    · rw [if_pos c6] at h
      refine lv_iload hx hb dX10_listen_170 (lv_at hl 5 rfl) ?_
      refine lv_istore_n (lv' := [(2, .int l4), (5, .int x5), (0, .ref (gR G 142)), (1, .int l1), (3, .int l3), (4, .int l4)]) hx hb dX10_listen_172 rfl hl (by decide) rfl (fun ls hl => ?_)
      refine lv_iload hx hb dX10_listen_173 (lv_at hl 1 rfl) ?_
      refine lv_istore_n (lv' := [(3, .int x5), (2, .int l4), (5, .int x5), (0, .ref (gR G 142)), (1, .int l1), (4, .int l4)]) hx hb dX10_listen_175 rfl hl (by decide) rfl (fun ls hl => ?_)
      exact sBX10_listen_176 C hr hr142  hd (lv_sub hl [3, 4, 1, 0, 5] rfl) h
    · rw [if_neg c6] at h
      refine lv_goto (tgt := 176) hx hb dX10_listen_167 (by decide) ?_
      exact sBX10_listen_176 C hr hr142  hd (lv_sub hl [1, 2, 3, 4, 5] rfl) h
def LX10_listen_142 : Nat → Int32 → Int32 → Int32 → Int32 → St → Option (Int32 × St)
  | 0 => fun _ _ _ _ _ => none
  | n + 1 => fun l1 l2 l3 l4 S => KX10_listen_142 (LX10_listen_142 n) l1 l2 l3 l4 S
theorem sLX10_listen_142 (C : Cx p s m args meth c cX10_listen 6 RX10 G) (hr : meth.sig.returnType = some .int) : ∀ (n : Nat) (l1 : Int32) (l2 : Int32) (l3 : Int32) (l4 : Int32) (S : St) (res : (Int32 × St)) (H : Heap) (locs : List Loc) (ls : Array Slot), Dy G S s H locs → lv_has ls 6 [(0, .ref (gR G 142)), (1, .int l1), (2, .int l2), (3, .int l3), (4, .int l4)] → LX10_listen_142 n l1 l2 l3 l4 S = some res → W p l e (rmL 11 0 0) s m args below meth c H locs 0 0 (MQ below (QI G res.1 res.2) args s 0 0 (Ab G)) (F0 m 142 ls []) := by
  intro n
  induction n with
  | zero => intro l1 l2 l3 l4 S res H locs ls  hd hl h; cases h
  | succ n ih =>
    intro l1 l2 l3 l4 S res H locs ls  hd hl h
    exact sKX10_listen_142 C hr ih  hd hl h
def KX10_listen_88 (r26 : Int32 → Int32 → St → Option (Int32 × St)) (r88 : Int32 → Int32 → Int32 → St → Option (Int32 × St)) (l1 : Int32) (l2 : Int32) (l3 : Int32) (S : St) : Option (Int32 × St) :=
  (if 8 ≤ l3 then bv (fX10_unpack 169 0 S) fun S => vl (l2 + 1) fun x3 => (r26 l1 x3 S) else rd S 177 l3 fun x6 => bd (fX10_lowest x6 S) fun x7 S => wr S 179 ((8 * l2) + l3) x7 fun S => vl (l3 + 1) fun x8 => (r88 l1 l2 x8 S))
set_option maxHeartbeats 4000000 in
set_option maxRecDepth 20000 in
theorem sKX10_listen_88 (C : Cx p s m args meth c cX10_listen 6 RX10 G) (hr : meth.sig.returnType = some .int) {r26 : Int32 → Int32 → St → Option (Int32 × St)} {r88 : Int32 → Int32 → Int32 → St → Option (Int32 × St)} (hr26 : ∀ (l1 : Int32) (l2 : Int32) (S : St) (res : (Int32 × St)) (H : Heap) (locs : List Loc) (ls : Array Slot), Dy G S s H locs → lv_has ls 6 [(0, .ref (gR G 142)), (1, .int l1), (2, .int l2)] → r26 l1 l2 S = some res → W p l e (rmL 11 0 0) s m args below meth c H locs 0 0 (MQ below (QI G res.1 res.2) args s 0 0 (Ab G)) (F0 m 26 ls [])) (hr88 : ∀ (l1 : Int32) (l2 : Int32) (l3 : Int32) (S : St) (res : (Int32 × St)) (H : Heap) (locs : List Loc) (ls : Array Slot), Dy G S s H locs → lv_has ls 6 [(0, .ref (gR G 142)), (1, .int l1), (2, .int l2), (3, .int l3)] → r88 l1 l2 l3 S = some res → W p l e (rmL 11 0 0) s m args below meth c H locs 0 0 (MQ below (QI G res.1 res.2) args s 0 0 (Ab G)) (F0 m 88 ls [])) {l1 : Int32} {l2 : Int32} {l3 : Int32} {S : St} {res : (Int32 × St)} {H : Heap} {locs : List Loc} {ls : Array Slot}  (hd : Dy G S s H locs) (hl : lv_has ls 6 [(0, .ref (gR G 142)), (1, .int l1), (2, .int l2), (3, .int l3)]) (h : KX10_listen_88 r26 r88 l1 l2 l3 S = some res) : W p l e (rmL 11 0 0) s m args below meth c H locs 0 0 (MQ below (QI G res.1 res.2) args s 0 0 (Ab G)) (F0 m 88 ls []) := by
  unfold KX10_listen_88 at h
  have hx := C.1.1
  have hb := C.1.2.1
  refine lv_iload_n hx hb dX10_listen_88 rfl (lv_at hl 3 rfl) ?_
  refine lv_bipush (v := 8) hx hb dX10_listen_89 (by decide) ?_
  refine lv_icmp_ge (tgt := 120) hx hb dX10_listen_91 (by decide) (fun c1 => ?_) (fun c1 => ?_)
  · rw [if_pos c1] at h
    refine lv_aload_n hx hb dX10_listen_120 rfl (lv_at hl 0 rfl) ?_
    refine lv_aload_n hx hb dX10_listen_121 rfl (lv_at hl 0 rfl) ?_
    refine gX10_116 C hd (rfl : kd 142 = 10) (q := 169) rfl dX10_listen_122 (fun y2 => ?_)
    refine lv_iconst (v := 0) hx hb dX10_listen_125 (by decide) ?_
    obtain ⟨S1, hc, h⟩ := bv_some h
    refine R_cVv C hd (ccX10_unpack l G y2 hc) kX10_430 rfl (by decide) (rfl : kd 142 = 10) hl.1 ⟨by decide, by decide⟩ rfl rfl (Nat.le_of_ble_eq_true rfl) dX10_listen_126 ⟨Nat.zero_le _, Nat.zero_le _⟩ (fun H locs hd => ?_)
    generalize S1 = S at h hd
    refine R_vi h (fun x3 ex3 h => ?_)
    refine lv_iinc (v := x3) (lv' := [(2, .int x3), (0, .ref (gR G 142)), (1, .int l1), (3, .int l3)]) hx hb dX10_listen_129 hl (k := 2) rfl (by rw [ex3]; rfl) (by decide) rfl (fun ls hl => ?_)
    refine lv_goto (tgt := 26) hx hb dX10_listen_132 (by decide) ?_
    exact hr26 l1 x3 _ _ _ _ _  hd (lv_sub hl [1, 2, 0] rfl) h
  · rw [if_neg c1] at h
    refine lv_aload_n hx hb dX10_listen_94 rfl (lv_at hl 0 rfl) ?_
    refine gX10_146 C hd (rfl : kd 142 = 10) (q := 179) rfl dX10_listen_95 (fun y4 => ?_)
    refine lv_bipush (v := 8) hx hb dX10_listen_98 (by decide) ?_
    refine lv_iload_n hx hb dX10_listen_100 rfl (lv_at hl 2 rfl) ?_
    refine lv_imul hx hb dX10_listen_101 ?_
    refine lv_iload_n hx hb dX10_listen_102 rfl (lv_at hl 3 rfl) ?_
    refine lv_iadd hx hb dX10_listen_103 ?_
    refine lv_aload_n hx hb dX10_listen_104 rfl (lv_at hl 0 rfl) ?_
    refine gX10_140 C hd (rfl : kd 142 = 10) (q := 177) rfl dX10_listen_105 (fun y5 => ?_)
    refine lv_iload_n hx hb dX10_listen_108 rfl (lv_at hl 3 rfl) ?_
    refine R_iald C hd y5 h dX10_listen_109 (fun x6 h => ?_)
    obtain ⟨x7, S1, hc, h⟩ := bd_some h
    refine R_cSi C hd (ccX10_lowest l G  hc) kX10_463  hl.1 ⟨by decide, by decide⟩ rfl rfl (Nat.le_of_ble_eq_true rfl) dX10_listen_110 ⟨Nat.zero_le _, Nat.zero_le _⟩ (fun H locs hd => ?_)
    generalize S1 = S at h hd
    refine R_iast C hd y4 h dX10_listen_113 (fun S H locs hd h => ?_)
    refine R_vi h (fun x8 ex8 h => ?_)
    refine lv_iinc (v := x8) (lv' := [(3, .int x8), (0, .ref (gR G 142)), (1, .int l1), (2, .int l2)]) hx hb dX10_listen_114 hl (k := 3) rfl (by rw [ex8]; rfl) (by decide) rfl (fun ls hl => ?_)
    refine lv_goto (tgt := 88) hx hb dX10_listen_117 (by decide) ?_
    exact hr88 l1 l2 x8 _ _ _ _ _  hd (lv_sub hl [1, 2, 3, 0] rfl) h
def LX10_listen_88 (r26 : Int32 → Int32 → St → Option (Int32 × St)) : Nat → Int32 → Int32 → Int32 → St → Option (Int32 × St)
  | 0 => fun _ _ _ _ => none
  | n + 1 => fun l1 l2 l3 S => KX10_listen_88 r26 (LX10_listen_88 r26 n) l1 l2 l3 S
theorem sLX10_listen_88 (C : Cx p s m args meth c cX10_listen 6 RX10 G) (hr : meth.sig.returnType = some .int) {r26 : Int32 → Int32 → St → Option (Int32 × St)} (hr26 : ∀ (l1 : Int32) (l2 : Int32) (S : St) (res : (Int32 × St)) (H : Heap) (locs : List Loc) (ls : Array Slot), Dy G S s H locs → lv_has ls 6 [(0, .ref (gR G 142)), (1, .int l1), (2, .int l2)] → r26 l1 l2 S = some res → W p l e (rmL 11 0 0) s m args below meth c H locs 0 0 (MQ below (QI G res.1 res.2) args s 0 0 (Ab G)) (F0 m 26 ls [])) : ∀ (n : Nat) (l1 : Int32) (l2 : Int32) (l3 : Int32) (S : St) (res : (Int32 × St)) (H : Heap) (locs : List Loc) (ls : Array Slot), Dy G S s H locs → lv_has ls 6 [(0, .ref (gR G 142)), (1, .int l1), (2, .int l2), (3, .int l3)] → LX10_listen_88 r26 n l1 l2 l3 S = some res → W p l e (rmL 11 0 0) s m args below meth c H locs 0 0 (MQ below (QI G res.1 res.2) args s 0 0 (Ab G)) (F0 m 88 ls []) := by
  intro n
  induction n with
  | zero => intro l1 l2 l3 S res H locs ls  hd hl h; cases h
  | succ n ih =>
    intro l1 l2 l3 S res H locs ls  hd hl h
    exact sKX10_listen_88 C hr hr26 ih  hd hl h
def KX10_listen_26 (r26 : Int32 → Int32 → St → Option (Int32 × St)) (l1 : Int32) (l2 : Int32) (S : St) : Option (Int32 × St) :=
  (if (S 142 55) ≤ l2 then (LX10_listen_142 FU l1 ((-1)) 0 0 S) else bv (fX10_pack 169 0 S) fun S => rd S 178 l2 fun x5 => dv x5 100 fun x6 => rd S 178 l2 fun x8 => dv x8 10 fun x9 => rm' x9 10 fun x10 => rd S 178 l2 fun x12 => rm' x12 10 fun x13 => wr S 161 ((6 * x6) + x10) x13 fun S => bv (fX10_hourTold  S) fun S => (LX10_listen_88 r26 FU l1 l2 0 S))
set_option maxHeartbeats 4000000 in
set_option maxRecDepth 20000 in
theorem sKX10_listen_26 (C : Cx p s m args meth c cX10_listen 6 RX10 G) (hr : meth.sig.returnType = some .int) {r26 : Int32 → Int32 → St → Option (Int32 × St)} (hr26 : ∀ (l1 : Int32) (l2 : Int32) (S : St) (res : (Int32 × St)) (H : Heap) (locs : List Loc) (ls : Array Slot), Dy G S s H locs → lv_has ls 6 [(0, .ref (gR G 142)), (1, .int l1), (2, .int l2)] → r26 l1 l2 S = some res → W p l e (rmL 11 0 0) s m args below meth c H locs 0 0 (MQ below (QI G res.1 res.2) args s 0 0 (Ab G)) (F0 m 26 ls [])) {l1 : Int32} {l2 : Int32} {S : St} {res : (Int32 × St)} {H : Heap} {locs : List Loc} {ls : Array Slot}  (hd : Dy G S s H locs) (hl : lv_has ls 6 [(0, .ref (gR G 142)), (1, .int l1), (2, .int l2)]) (h : KX10_listen_26 r26 l1 l2 S = some res) : W p l e (rmL 11 0 0) s m args below meth c H locs 0 0 (MQ below (QI G res.1 res.2) args s 0 0 (Ab G)) (F0 m 26 ls []) := by
  unfold KX10_listen_26 at h
  have hx := C.1.1
  have hb := C.1.2.1
  refine lv_iload_n hx hb dX10_listen_26 rfl (lv_at hl 2 rfl) ?_
  refine lv_aload_n hx hb dX10_listen_27 rfl (lv_at hl 0 rfl) ?_
  refine gX10_452 C hd (rfl : kd 142 = 10) dX10_listen_28 ?_
  refine lv_icmp_ge (tgt := 135) hx hb dX10_listen_31 (by decide) (fun c1 => ?_) (fun c1 => ?_)
  · rw [if_pos c1] at h
    refine lv_iconst (v := -1) hx hb dX10_listen_135 (by decide) ?_
    refine lv_istore_n (lv' := [(2, .int ((-1))), (0, .ref (gR G 142)), (1, .int l1)]) hx hb dX10_listen_136 rfl hl (by decide) rfl (fun ls hl => ?_)
    refine lv_iconst (v := 0) hx hb dX10_listen_137 (by decide) ?_
    refine lv_istore_n (lv' := [(3, .int 0), (2, .int ((-1))), (0, .ref (gR G 142)), (1, .int l1)]) hx hb dX10_listen_138 rfl hl (by decide) rfl (fun ls hl => ?_)
    refine lv_iconst (v := 0) hx hb dX10_listen_139 (by decide) ?_
    refine lv_istore (lv' := [(4, .int 0), (3, .int 0), (2, .int ((-1))), (0, .ref (gR G 142)), (1, .int l1)]) hx hb dX10_listen_140 hl (by decide) rfl (fun ls hl => ?_)
    exact sLX10_listen_142 C hr _ l1 ((-1)) 0 0 _ _ _ _ _  hd (lv_sub hl [3, 4, 2, 1, 0] rfl) h
  · rw [if_neg c1] at h
    refine lv_aload_n hx hb dX10_listen_34 rfl (lv_at hl 0 rfl) ?_
    refine lv_aload_n hx hb dX10_listen_35 rfl (lv_at hl 0 rfl) ?_
    refine gX10_116 C hd (rfl : kd 142 = 10) (q := 169) rfl dX10_listen_36 (fun y2 => ?_)
    refine lv_iconst (v := 0) hx hb dX10_listen_39 (by decide) ?_
    obtain ⟨S1, hc, h⟩ := bv_some h
    refine R_cVv C hd (ccX10_pack l G y2 hc) kX10_406 rfl (by decide) (rfl : kd 142 = 10) hl.1 ⟨by decide, by decide⟩ rfl rfl (Nat.le_of_ble_eq_true rfl) dX10_listen_40 ⟨Nat.zero_le _, Nat.zero_le _⟩ (fun H locs hd => ?_)
    generalize S1 = S at h hd
    refine lv_aload_n hx hb dX10_listen_43 rfl (lv_at hl 0 rfl) ?_
    refine gX10_89 C hd (rfl : kd 142 = 10) (q := 161) rfl dX10_listen_44 (fun y3 => ?_)
    refine lv_bipush (v := 6) hx hb dX10_listen_47 (by decide) ?_
    refine lv_aload_n hx hb dX10_listen_49 rfl (lv_at hl 0 rfl) ?_
    refine gX10_143 C hd (rfl : kd 142 = 10) (q := 178) rfl dX10_listen_50 (fun y4 => ?_)
    refine lv_iload_n hx hb dX10_listen_53 rfl (lv_at hl 2 rfl) ?_
    refine R_iald C hd y4 h dX10_listen_54 (fun x5 h => ?_)
    refine lv_bipush (v := 100) hx hb dX10_listen_55 (by decide) ?_
    refine R_div C h dX10_listen_57 (fun x6 h => ?_)
    refine lv_imul hx hb dX10_listen_58 ?_
    refine lv_aload_n hx hb dX10_listen_59 rfl (lv_at hl 0 rfl) ?_
    refine gX10_143 C hd (rfl : kd 142 = 10) (q := 178) rfl dX10_listen_60 (fun y7 => ?_)
    refine lv_iload_n hx hb dX10_listen_63 rfl (lv_at hl 2 rfl) ?_
    refine R_iald C hd y7 h dX10_listen_64 (fun x8 h => ?_)
    refine lv_bipush (v := 10) hx hb dX10_listen_65 (by decide) ?_
    refine R_div C h dX10_listen_67 (fun x9 h => ?_)
    refine lv_bipush (v := 10) hx hb dX10_listen_68 (by decide) ?_
    refine R_rem C h dX10_listen_70 (fun x10 h => ?_)
    refine lv_iadd hx hb dX10_listen_71 ?_
    refine lv_aload_n hx hb dX10_listen_72 rfl (lv_at hl 0 rfl) ?_
    refine gX10_143 C hd (rfl : kd 142 = 10) (q := 178) rfl dX10_listen_73 (fun y11 => ?_)
    refine lv_iload_n hx hb dX10_listen_76 rfl (lv_at hl 2 rfl) ?_
    refine R_iald C hd y11 h dX10_listen_77 (fun x12 h => ?_)
    refine lv_bipush (v := 10) hx hb dX10_listen_78 (by decide) ?_
    refine R_rem C h dX10_listen_80 (fun x13 h => ?_)
    refine R_iast C hd y3 h dX10_listen_81 (fun S H locs hd h => ?_)
    refine lv_aload_n hx hb dX10_listen_82 rfl (lv_at hl 0 rfl) ?_
    obtain ⟨S1, hc, h⟩ := bv_some h
    refine R_cVv C hd (ccX10_hourTold l G  hc) kX10_449 rfl (by decide) (rfl : kd 142 = 10) hl.1 ⟨by decide, by decide⟩ rfl rfl (Nat.le_of_ble_eq_true rfl) dX10_listen_83 ⟨Nat.zero_le _, Nat.zero_le _⟩ (fun H locs hd => ?_)
    generalize S1 = S at h hd
    refine lv_iconst (v := 0) hx hb dX10_listen_86 (by decide) ?_
    refine lv_istore_n (lv' := [(3, .int 0), (0, .ref (gR G 142)), (1, .int l1), (2, .int l2)]) hx hb dX10_listen_87 rfl hl (by decide) rfl (fun ls hl => ?_)
    exact sLX10_listen_88 C hr hr26 _ l1 l2 0 _ _ _ _ _  hd (lv_sub hl [1, 2, 3, 0] rfl) h
def LX10_listen_26 : Nat → Int32 → Int32 → St → Option (Int32 × St)
  | 0 => fun _ _ _ => none
  | n + 1 => fun l1 l2 S => KX10_listen_26 (LX10_listen_26 n) l1 l2 S
theorem sLX10_listen_26 (C : Cx p s m args meth c cX10_listen 6 RX10 G) (hr : meth.sig.returnType = some .int) : ∀ (n : Nat) (l1 : Int32) (l2 : Int32) (S : St) (res : (Int32 × St)) (H : Heap) (locs : List Loc) (ls : Array Slot), Dy G S s H locs → lv_has ls 6 [(0, .ref (gR G 142)), (1, .int l1), (2, .int l2)] → LX10_listen_26 n l1 l2 S = some res → W p l e (rmL 11 0 0) s m args below meth c H locs 0 0 (MQ below (QI G res.1 res.2) args s 0 0 (Ab G)) (F0 m 26 ls []) := by
  intro n
  induction n with
  | zero => intro l1 l2 S res H locs ls  hd hl h; cases h
  | succ n ih =>
    intro l1 l2 S res H locs ls  hd hl h
    exact sKX10_listen_26 C hr ih  hd hl h
def fX10_listen (a1 : Int32) (S : St) : Option (Int32 × St) :=
  pf S 142 3 0 fun S => (if a1 < 0 then (BX10_listen_14  S) else (if a1 ≤ 1 then bv (fX10_tellFits  S) fun S => (LX10_listen_26 FU a1 0 S) else (BX10_listen_14  S)))
set_option maxHeartbeats 4000000 in
set_option maxRecDepth 20000 in
theorem sfX10_listen (C : Cx p s m args meth c cX10_listen 6 RX10 G) (hr : meth.sig.returnType = some .int) {a1 : Int32} {S : St} {res : (Int32 × St)} {H : Heap} {locs : List Loc} {ls : Array Slot}  (hd : Dy G S s H locs) (hl : lv_has ls 6 [(0, .ref (gR G 142)), (1, .int a1)]) (h : fX10_listen a1 S = some res) : W p l e (rmL 11 0 0) s m args below meth c H locs 0 0 (MQ below (QI G res.1 res.2) args s 0 0 (Ab G)) (F0 m 0 ls []) := by
  unfold fX10_listen at h
  have hx := C.1.1
  have hb := C.1.2.1
  refine lv_aload_n hx hb dX10_listen_0 rfl (lv_at hl 0 rfl) ?_
  refine lv_iconst (v := 0) hx hb dX10_listen_1 (by decide) ?_
  refine pX10_167 C hd (rfl : kd 142 = 10) h dX10_listen_2 (fun S H locs hd h => ?_)
  refine lv_iload_n hx hb dX10_listen_5 rfl (lv_at hl 1 rfl) ?_
  refine lv_if_lt (tgt := 14) hx hb dX10_listen_6 (by decide) (fun c1 => ?_) (fun c1 => ?_)
  · rw [if_pos c1] at h
    exact sBX10_listen_14 C hr  hd (lv_sub hl [0] rfl) h
  · rw [if_neg c1] at h
    refine lv_iload_n hx hb dX10_listen_9 rfl (lv_at hl 1 rfl) ?_
    refine lv_iconst (v := 1) hx hb dX10_listen_10 (by decide) ?_
    refine lv_icmp_le (tgt := 20) hx hb dX10_listen_11 (by decide) (fun c2 => ?_) (fun c2 => ?_)
    · rw [if_pos c2] at h
      refine lv_aload_n hx hb dX10_listen_20 rfl (lv_at hl 0 rfl) ?_
      obtain ⟨S1, hc, h⟩ := bv_some h
      refine R_cVv C hd (ccX10_tellFits l G  hc) kX10_460 rfl (by decide) (rfl : kd 142 = 10) hl.1 ⟨by decide, by decide⟩ rfl rfl (Nat.le_of_ble_eq_true rfl) dX10_listen_21 ⟨Nat.zero_le _, Nat.zero_le _⟩ (fun H locs hd => ?_)
      generalize S1 = S at h hd
      refine lv_iconst (v := 0) hx hb dX10_listen_24 (by decide) ?_
      refine lv_istore_n (lv' := [(2, .int 0), (0, .ref (gR G 142)), (1, .int a1)]) hx hb dX10_listen_25 rfl hl (by decide) rfl (fun ls hl => ?_)
      exact sLX10_listen_26 C hr _ a1 0 _ _ _ _ _  hd (lv_sub hl [1, 2, 0] rfl) h
    · rw [if_neg c2] at h
      exact sBX10_listen_14 C hr  hd (lv_sub hl [0] rfl) h
set_option maxRecDepth 20000 in
theorem ccX10_listen (l : Launch) (G : Gt) {a1 : Int32} {S : St} {res : (Int32 × St)}  (h : fX10_listen a1 S = some res) : Met l yX10_listen (wm yX10_listen cX10_listen 6 (some .int)) (rmL 11 0 0) (PcW G S [.ref (gR G 142), .int a1]) (QI G res.1 res.2) 0 0 (Ab G) := by
  refine Met.ofW (cc := cX10_listen) (maxL := 6) (ret := (some .int)) (by decide) rfl ?_
  intro p e s m args below meth c s₁ B hml hv
  obtain ⟨rfl, hK, hP⟩ := hv
  have C : Cx p s m _ meth c cX10_listen 6 RX10 G := ⟨⟨B.exec, B.bytes, hml, findClass_of_methodNamed B.named, fun w hw => atoms_spec (ws := wm yX10_listen cX10_listen 6 (some .int)) B.pre w (List.mem_cons_of_mem _ hw)⟩, B.notSynchronized, hK⟩
  have hl := lv_entry ([.ref (gR G 142), .int a1]) (n := 6) (Nat.le_of_ble_eq_true rfl)
  rw [lg_entry_eq]
  generalize (lg_sl ([.ref (gR G 142), .int a1]) ++ List.replicate (6 - (lg_sl ([.ref (gR G 142), .int a1])).length) Slot.unset).toArray = ls at hl ⊢
  exact sfX10_listen C B.returns  ⟨hP, va_S.rf⟩ hl h
def fX10_forget  (S : St) : Option St :=
  pf S 142 3 0 fun S => pf S 142 37 0 fun S => some S
set_option maxHeartbeats 4000000 in
set_option maxRecDepth 20000 in
theorem sfX10_forget (C : Cx p s m args meth c cX10_forget 1 RX10 G) (hr : meth.sig.returnType = none)  {S : St} {res : St} {H : Heap} {locs : List Loc} {ls : Array Slot}  (hd : Dy G S s H locs) (hl : lv_has ls 1 [(0, .ref (gR G 142))]) (h : fX10_forget  S = some res) : W p l e (rmL 3 0 0) s m args below meth c H locs 0 0 (MQ below (QV G res) args s 0 0 (Ab G)) (F0 m 0 ls []) := by
  unfold fX10_forget at h
  have hx := C.1.1
  have hb := C.1.2.1
  refine lv_aload_n hx hb dX10_forget_0 rfl (lv_at hl 0 rfl) ?_
  refine lv_iconst (v := 0) hx hb dX10_forget_1 (by decide) ?_
  refine pX10_167 C hd (rfl : kd 142 = 10) h dX10_forget_2 (fun S H locs hd h => ?_)
  refine lv_aload_n hx hb dX10_forget_5 rfl (lv_at hl 0 rfl) ?_
  refine lv_iconst (v := 0) hx hb dX10_forget_6 (by decide) ?_
  refine pX10_349 C hd (rfl : kd 142 = 10) h dX10_forget_7 (fun S H locs hd h => ?_)
  exact R_vret C hr hd h dX10_forget_10
set_option maxRecDepth 20000 in
theorem ccX10_forget (l : Launch) (G : Gt)  {S : St} {res : St}  (h : fX10_forget  S = some res) : Met l yX10_forget (wm yX10_forget cX10_forget 1 (none)) (rmL 3 0 0) (PcW G S [.ref (gR G 142)]) (QV G res) 0 0 (Ab G) := by
  refine Met.ofW (cc := cX10_forget) (maxL := 1) (ret := none) (by decide) rfl ?_
  intro p e s m args below meth c s₁ B hml hv
  obtain ⟨rfl, hK, hP⟩ := hv
  have C : Cx p s m _ meth c cX10_forget 1 RX10 G := ⟨⟨B.exec, B.bytes, hml, findClass_of_methodNamed B.named, fun w hw => atoms_spec (ws := wm yX10_forget cX10_forget 1 (none)) B.pre w (List.mem_cons_of_mem _ hw)⟩, B.notSynchronized, hK⟩
  have hl := lv_entry ([.ref (gR G 142)]) (n := 1) (Nat.le_of_ble_eq_true rfl)
  rw [lg_entry_eq]
  generalize (lg_sl ([.ref (gR G 142)]) ++ List.replicate (1 - (lg_sl ([.ref (gR G 142)])).length) Slot.unset).toArray = ls at hl ⊢
  exact sfX10_forget C B.returns  ⟨hP, va_S.rf⟩ hl h
def BX10_gain_26 (l2 : Int32) (l4 : Int32) (s0 : Int32) (S : St) : Option (Int32 × St) :=
  (if l4 = 1 then rd S 146 l2 fun x5 => dv x5 2 fun x6 => ri (x6 - s0) S else rd S 146 l2 fun x3 => ri (x3 - s0) S)
set_option maxHeartbeats 4000000 in
set_option maxRecDepth 20000 in
theorem sBX10_gain_26 (C : Cx p s m args meth c cX10_gain 6 RX10 G) (hr : meth.sig.returnType = some .int) {l2 : Int32} {l4 : Int32} {s0 : Int32} {S : St} {res : (Int32 × St)} {H : Heap} {locs : List Loc} {ls : Array Slot}  (hd : Dy G S s H locs) (hl : lv_has ls 6 [(0, .ref (gR G 142)), (2, .int l2), (4, .int l4)]) (h : BX10_gain_26 l2 l4 s0 S = some res) : W p l e (rmL 6 0 0) s m args below meth c H locs 0 0 (MQ below (QI G res.1 res.2) args s 0 0 (Ab G)) (F0 m 26 ls [.int s0]) := by
  unfold BX10_gain_26 at h
  have hx := C.1.1
  have hb := C.1.2.1
  refine lv_istore (lv' := [(5, .int s0), (0, .ref (gR G 142)), (2, .int l2), (4, .int l4)]) hx hb dX10_gain_26 hl (by decide) rfl (fun ls hl => ?_)
  refine lv_iload hx hb dX10_gain_28 (lv_at hl 3 rfl) ?_
  refine lv_iconst (v := 1) hx hb dX10_gain_30 (by decide) ?_
  refine lv_icmp_ne (tgt := 45) hx hb dX10_gain_31 (by decide) (fun c1 => ?_) (fun c1 => ?_)
  · rw [if_neg c1] at h
    refine lv_aload_n hx hb dX10_gain_45 rfl (lv_at hl 1 rfl) ?_
    refine gX10_43 C hd (rfl : kd 142 = 10) (q := 146) rfl dX10_gain_46 (fun y2 => ?_)
    refine lv_iload_n hx hb dX10_gain_49 rfl (lv_at hl 2 rfl) ?_
    refine R_iald C hd y2 h dX10_gain_50 (fun x3 h => ?_)
    refine lv_iload hx hb dX10_gain_51 (lv_at hl 0 rfl) ?_
    refine lv_isub hx hb dX10_gain_53 ?_
    exact R_iret C hr hd h dX10_gain_54
  · rw [if_pos c1] at h
    refine lv_aload_n hx hb dX10_gain_34 rfl (lv_at hl 1 rfl) ?_
    refine gX10_43 C hd (rfl : kd 142 = 10) (q := 146) rfl dX10_gain_35 (fun y4 => ?_)
    refine lv_iload_n hx hb dX10_gain_38 rfl (lv_at hl 2 rfl) ?_
    refine R_iald C hd y4 h dX10_gain_39 (fun x5 h => ?_)
    refine lv_iconst (v := 2) hx hb dX10_gain_40 (by decide) ?_
    refine R_div C h dX10_gain_41 (fun x6 h => ?_)
    refine lv_goto (tgt := 51) hx hb dX10_gain_42 (by decide) ?_
    refine lv_iload hx hb dX10_gain_51 (lv_at hl 0 rfl) ?_
    refine lv_isub hx hb dX10_gain_53 ?_
    exact R_iret C hr hd h dX10_gain_54
def fX10_gain (a1 : Int32) (a2 : Int32) (a3 : Int32) (a4 : Int32) (S : St) : Option (Int32 × St) :=
  (if a3 = 0 then ri 0 S else bd (fX10_isTrespass a1 a2 S) fun x2 S => (if x2 = 0 then (BX10_gain_26 a2 a4 0 S) else bd (fX10_fineOf a1 a2 0 S) fun x4 S => (BX10_gain_26 a2 a4 x4 S)))
set_option maxHeartbeats 4000000 in
set_option maxRecDepth 20000 in
theorem sfX10_gain (C : Cx p s m args meth c cX10_gain 6 RX10 G) (hr : meth.sig.returnType = some .int) {a1 : Int32} {a2 : Int32} {a3 : Int32} {a4 : Int32} {S : St} {res : (Int32 × St)} {H : Heap} {locs : List Loc} {ls : Array Slot}  (hd : Dy G S s H locs) (hl : lv_has ls 6 [(0, .ref (gR G 142)), (1, .int a1), (2, .int a2), (3, .int a3), (4, .int a4)]) (h : fX10_gain a1 a2 a3 a4 S = some res) : W p l e (rmL 6 0 0) s m args below meth c H locs 0 0 (MQ below (QI G res.1 res.2) args s 0 0 (Ab G)) (F0 m 0 ls []) := by
  unfold fX10_gain at h
  have hx := C.1.1
  have hb := C.1.2.1
  refine lv_iload_n hx hb dX10_gain_0 rfl (lv_at hl 3 rfl) ?_
  refine lv_if_ne (tgt := 6) hx hb dX10_gain_1 (by decide) (fun c1 => ?_) (fun c1 => ?_)
  · rw [if_neg c1] at h
    refine lv_aload_n hx hb dX10_gain_6 rfl (lv_at hl 0 rfl) ?_
    refine lv_iload_n hx hb dX10_gain_7 rfl (lv_at hl 1 rfl) ?_
    refine lv_iload_n hx hb dX10_gain_8 rfl (lv_at hl 2 rfl) ?_
    obtain ⟨x2, S1, hc, h⟩ := bd_some h
    refine R_cVi C hd (ccX10_isTrespass l G  hc) kX10_377 rfl (by decide) (rfl : kd 142 = 10) hl.1 ⟨by decide, by decide⟩ rfl rfl (Nat.le_of_ble_eq_true rfl) dX10_gain_9 ⟨Nat.zero_le _, Nat.zero_le _⟩ (fun H locs hd => ?_)
    generalize S1 = S at h hd
    refine lv_if_eq (tgt := 25) hx hb dX10_gain_12 (by decide) (fun c3 => ?_) (fun c3 => ?_)
    · rw [if_pos c3] at h
      refine lv_iconst (v := 0) hx hb dX10_gain_25 (by decide) ?_
      exact sBX10_gain_26 C hr  hd (lv_sub hl [0, 2, 4] rfl) h
    · rw [if_neg c3] at h
      refine lv_aload_n hx hb dX10_gain_15 rfl (lv_at hl 0 rfl) ?_
      refine lv_iload_n hx hb dX10_gain_16 rfl (lv_at hl 1 rfl) ?_
      refine lv_iload_n hx hb dX10_gain_17 rfl (lv_at hl 2 rfl) ?_
      refine lv_iconst (v := 0) hx hb dX10_gain_18 (by decide) ?_
      obtain ⟨x4, S1, hc, h⟩ := bd_some h
      refine R_cVi C hd (ccX10_fineOf l G  hc) kX10_380 rfl (by decide) (rfl : kd 142 = 10) hl.1 ⟨by decide, by decide⟩ rfl rfl (Nat.le_of_ble_eq_true rfl) dX10_gain_19 ⟨Nat.zero_le _, Nat.zero_le _⟩ (fun H locs hd => ?_)
      generalize S1 = S at h hd
      refine lv_goto (tgt := 26) hx hb dX10_gain_22 (by decide) ?_
      exact sBX10_gain_26 C hr  hd (lv_sub hl [0, 2, 4] rfl) h
  · rw [if_pos c1] at h
    refine lv_iconst (v := 0) hx hb dX10_gain_4 (by decide) ?_
    exact R_iret C hr hd h dX10_gain_5
set_option maxRecDepth 20000 in
theorem ccX10_gain (l : Launch) (G : Gt) {a1 : Int32} {a2 : Int32} {a3 : Int32} {a4 : Int32} {S : St} {res : (Int32 × St)}  (h : fX10_gain a1 a2 a3 a4 S = some res) : Met l yX10_gain (wm yX10_gain cX10_gain 6 (some .int)) (rmL 6 0 0) (PcW G S [.ref (gR G 142), .int a1, .int a2, .int a3, .int a4]) (QI G res.1 res.2) 0 0 (Ab G) := by
  refine Met.ofW (cc := cX10_gain) (maxL := 6) (ret := (some .int)) (by decide) rfl ?_
  intro p e s m args below meth c s₁ B hml hv
  obtain ⟨rfl, hK, hP⟩ := hv
  have C : Cx p s m _ meth c cX10_gain 6 RX10 G := ⟨⟨B.exec, B.bytes, hml, findClass_of_methodNamed B.named, fun w hw => atoms_spec (ws := wm yX10_gain cX10_gain 6 (some .int)) B.pre w (List.mem_cons_of_mem _ hw)⟩, B.notSynchronized, hK⟩
  have hl := lv_entry ([.ref (gR G 142), .int a1, .int a2, .int a3, .int a4]) (n := 6) (Nat.le_of_ble_eq_true rfl)
  rw [lg_entry_eq]
  generalize (lg_sl ([.ref (gR G 142), .int a1, .int a2, .int a3, .int a4]) ++ List.replicate (6 - (lg_sl ([.ref (gR G 142), .int a1, .int a2, .int a3, .int a4])).length) Slot.unset).toArray = ls at hl ⊢
  exact sfX10_gain C B.returns  ⟨hP, va_S.rf⟩ hl h
def BX10_game_40  (S : St) : Option (Int32 × St) :=
  bd (fX10_fail 1 S) fun x1 S => ri x1 S
set_option maxHeartbeats 4000000 in
set_option maxRecDepth 20000 in
theorem sBX10_game_40 (C : Cx p s m args meth c cX10_game 10 RX10 G) (hr : meth.sig.returnType = some .int)  {S : St} {res : (Int32 × St)} {H : Heap} {locs : List Loc} {ls : Array Slot}  (hd : Dy G S s H locs) (hl : lv_has ls 10 [(0, .ref (gR G 142))]) (h : BX10_game_40  S = some res) : W p l e (rmL 7 0 0) s m args below meth c H locs 0 0 (MQ below (QI G res.1 res.2) args s 0 0 (Ab G)) (F0 m 40 ls []) := by
  unfold BX10_game_40 at h
  have hx := C.1.1
  have hb := C.1.2.1
  refine lv_aload_n hx hb dX10_game_40 rfl (lv_at hl 0 rfl) ?_
  refine lv_iconst (v := 1) hx hb dX10_game_41 (by decide) ?_
  obtain ⟨x1, S1, hc, h⟩ := bd_some h
  refine R_cVi C hd (ccX10_fail l G  hc) kX10_325 rfl (by decide) (rfl : kd 142 = 10) hl.1 ⟨by decide, by decide⟩ rfl rfl (Nat.le_of_ble_eq_true rfl) dX10_game_42 ⟨Nat.zero_le _, Nat.zero_le _⟩ (fun H locs hd => ?_)
  generalize S1 = S at h hd
  exact R_iret C hr hd h dX10_game_45
def BX10_game_71  (S : St) : Option (Int32 × St) :=
  bd (fX10_fail 2 S) fun x1 S => ri x1 S
set_option maxHeartbeats 4000000 in
set_option maxRecDepth 20000 in
theorem sBX10_game_71 (C : Cx p s m args meth c cX10_game 10 RX10 G) (hr : meth.sig.returnType = some .int)  {S : St} {res : (Int32 × St)} {H : Heap} {locs : List Loc} {ls : Array Slot}  (hd : Dy G S s H locs) (hl : lv_has ls 10 [(0, .ref (gR G 142))]) (h : BX10_game_71  S = some res) : W p l e (rmL 7 0 0) s m args below meth c H locs 0 0 (MQ below (QI G res.1 res.2) args s 0 0 (Ab G)) (F0 m 71 ls []) := by
  unfold BX10_game_71 at h
  have hx := C.1.1
  have hb := C.1.2.1
  refine lv_aload_n hx hb dX10_game_71 rfl (lv_at hl 0 rfl) ?_
  refine lv_iconst (v := 2) hx hb dX10_game_72 (by decide) ?_
  obtain ⟨x1, S1, hc, h⟩ := bd_some h
  refine R_cVi C hd (ccX10_fail l G  hc) kX10_325 rfl (by decide) (rfl : kd 142 = 10) hl.1 ⟨by decide, by decide⟩ rfl rfl (Nat.le_of_ble_eq_true rfl) dX10_game_73 ⟨Nat.zero_le _, Nat.zero_le _⟩ (fun H locs hd => ?_)
  generalize S1 = S at h hd
  exact R_iret C hr hd h dX10_game_76
def BX10_game_181 (r86 : Int32 → Int32 → Int32 → Int32 → Int32 → Int32 → Int32 → St → Option (Int32 × St)) (l1 : Int32) (l2 : Int32) (l3 : Int32) (l4 : Int32) (l5 : Int32) (l6 : Int32) (l7 : Int32) (S : St) : Option (Int32 × St) :=
  vl (l7 + 1) fun x1 => (r86 l1 l2 l3 l4 l5 l6 x1 S)
set_option maxHeartbeats 4000000 in
set_option maxRecDepth 20000 in
theorem sBX10_game_181 (C : Cx p s m args meth c cX10_game 10 RX10 G) (hr : meth.sig.returnType = some .int) {r86 : Int32 → Int32 → Int32 → Int32 → Int32 → Int32 → Int32 → St → Option (Int32 × St)} (hr86 : ∀ (l1 : Int32) (l2 : Int32) (l3 : Int32) (l4 : Int32) (l5 : Int32) (l6 : Int32) (l7 : Int32) (S : St) (res : (Int32 × St)) (H : Heap) (locs : List Loc) (ls : Array Slot), Dy G S s H locs → lv_has ls 10 [(0, .ref (gR G 142)), (1, .int l1), (2, .int l2), (3, .int l3), (4, .int l4), (5, .int l5), (6, .int l6), (7, .int l7)] → r86 l1 l2 l3 l4 l5 l6 l7 S = some res → W p l e (rmL 7 0 0) s m args below meth c H locs 0 0 (MQ below (QI G res.1 res.2) args s 0 0 (Ab G)) (F0 m 86 ls [])) {l1 : Int32} {l2 : Int32} {l3 : Int32} {l4 : Int32} {l5 : Int32} {l6 : Int32} {l7 : Int32} {S : St} {res : (Int32 × St)} {H : Heap} {locs : List Loc} {ls : Array Slot}  (hd : Dy G S s H locs) (hl : lv_has ls 10 [(0, .ref (gR G 142)), (1, .int l1), (2, .int l2), (3, .int l3), (4, .int l4), (5, .int l5), (6, .int l6), (7, .int l7)]) (h : BX10_game_181 r86 l1 l2 l3 l4 l5 l6 l7 S = some res) : W p l e (rmL 7 0 0) s m args below meth c H locs 0 0 (MQ below (QI G res.1 res.2) args s 0 0 (Ab G)) (F0 m 181 ls []) := by
  unfold BX10_game_181 at h
  have hx := C.1.1
  have hb := C.1.2.1
  refine R_vi h (fun x1 ex1 h => ?_)
  refine lv_iinc (v := x1) (lv' := [(7, .int x1), (0, .ref (gR G 142)), (1, .int l1), (2, .int l2), (3, .int l3), (4, .int l4), (5, .int l5), (6, .int l6)]) hx hb dX10_game_181 hl (k := 7) rfl (by rw [ex1]; rfl) (by decide) rfl (fun ls hl => ?_)
  refine lv_goto (tgt := 86) hx hb dX10_game_184 (by decide) ?_
  exact hr86 l1 l2 l3 l4 l5 l6 x1 _ _ _ _ _  hd (lv_sub hl [1, 2, 3, 4, 5, 6, 7, 0] rfl) h
def BX10_game_179 (r86 : Int32 → Int32 → Int32 → Int32 → Int32 → Int32 → Int32 → St → Option (Int32 × St)) (l1 : Int32) (l2 : Int32) (l3 : Int32) (l4 : Int32) (l5 : Int32) (l7 : Int32) (s0 : Int32) (S : St) : Option (Int32 × St) :=
  (BX10_game_181 r86 l1 l2 l3 l4 l5 s0 l7 S)
set_option maxHeartbeats 4000000 in
set_option maxRecDepth 20000 in
theorem sBX10_game_179 (C : Cx p s m args meth c cX10_game 10 RX10 G) (hr : meth.sig.returnType = some .int) {r86 : Int32 → Int32 → Int32 → Int32 → Int32 → Int32 → Int32 → St → Option (Int32 × St)} (hr86 : ∀ (l1 : Int32) (l2 : Int32) (l3 : Int32) (l4 : Int32) (l5 : Int32) (l6 : Int32) (l7 : Int32) (S : St) (res : (Int32 × St)) (H : Heap) (locs : List Loc) (ls : Array Slot), Dy G S s H locs → lv_has ls 10 [(0, .ref (gR G 142)), (1, .int l1), (2, .int l2), (3, .int l3), (4, .int l4), (5, .int l5), (6, .int l6), (7, .int l7)] → r86 l1 l2 l3 l4 l5 l6 l7 S = some res → W p l e (rmL 7 0 0) s m args below meth c H locs 0 0 (MQ below (QI G res.1 res.2) args s 0 0 (Ab G)) (F0 m 86 ls [])) {l1 : Int32} {l2 : Int32} {l3 : Int32} {l4 : Int32} {l5 : Int32} {l7 : Int32} {s0 : Int32} {S : St} {res : (Int32 × St)} {H : Heap} {locs : List Loc} {ls : Array Slot}  (hd : Dy G S s H locs) (hl : lv_has ls 10 [(0, .ref (gR G 142)), (1, .int l1), (2, .int l2), (3, .int l3), (4, .int l4), (5, .int l5), (7, .int l7)]) (h : BX10_game_179 r86 l1 l2 l3 l4 l5 l7 s0 S = some res) : W p l e (rmL 7 0 0) s m args below meth c H locs 0 0 (MQ below (QI G res.1 res.2) args s 0 0 (Ab G)) (F0 m 179 ls [.int s0]) := by
  unfold BX10_game_179 at h
  have hx := C.1.1
  have hb := C.1.2.1
  refine lv_istore (lv' := [(6, .int s0), (0, .ref (gR G 142)), (1, .int l1), (2, .int l2), (3, .int l3), (4, .int l4), (5, .int l5), (7, .int l7)]) hx hb dX10_game_179 hl (by decide) rfl (fun ls hl => ?_)
  exact sBX10_game_181 C hr hr86  hd (lv_sub hl [1, 2, 3, 4, 5, 6, 0, 7] rfl) h
def KX10_game_86 (r86 : Int32 → Int32 → Int32 → Int32 → Int32 → Int32 → Int32 → St → Option (Int32 × St)) (l1 : Int32) (l2 : Int32) (l3 : Int32) (l4 : Int32) (l5 : Int32) (l6 : Int32) (l7 : Int32) (S : St) : Option (Int32 × St) :=
  (if 4 ≤ l7 then (if l4 = 0 then ri l5 S else ri l6 S) else dv l7 2 fun x3 => rm' l7 2 fun x4 => bd (fX10_gain l1 l3 (1 - x3) x4 S) fun x5 S => bd (fX10_gain l1 l3 x3 x4 S) fun x6 S => (if x6 < x5 then (BX10_game_181 r86 l1 l2 l3 l4 l5 l6 l7 S) else bd (fX10_gain l2 l3 (1 - x4) x3 S) fun x8 S => bd (fX10_gain l2 l3 x4 x3 S) fun x9 S => (if x8 ≤ x9 then vl (l5 + 1) fun x11 => (if l6 = (-1) then (BX10_game_179 r86 l1 l2 l3 l4 x11 l7 ((10 * x3) + x4) S) else (BX10_game_179 r86 l1 l2 l3 l4 x11 l7 l6 S)) else (BX10_game_181 r86 l1 l2 l3 l4 l5 l6 l7 S))))
set_option maxHeartbeats 4000000 in
set_option maxRecDepth 20000 in
theorem sKX10_game_86 (C : Cx p s m args meth c cX10_game 10 RX10 G) (hr : meth.sig.returnType = some .int) {r86 : Int32 → Int32 → Int32 → Int32 → Int32 → Int32 → Int32 → St → Option (Int32 × St)} (hr86 : ∀ (l1 : Int32) (l2 : Int32) (l3 : Int32) (l4 : Int32) (l5 : Int32) (l6 : Int32) (l7 : Int32) (S : St) (res : (Int32 × St)) (H : Heap) (locs : List Loc) (ls : Array Slot), Dy G S s H locs → lv_has ls 10 [(0, .ref (gR G 142)), (1, .int l1), (2, .int l2), (3, .int l3), (4, .int l4), (5, .int l5), (6, .int l6), (7, .int l7)] → r86 l1 l2 l3 l4 l5 l6 l7 S = some res → W p l e (rmL 7 0 0) s m args below meth c H locs 0 0 (MQ below (QI G res.1 res.2) args s 0 0 (Ab G)) (F0 m 86 ls [])) {l1 : Int32} {l2 : Int32} {l3 : Int32} {l4 : Int32} {l5 : Int32} {l6 : Int32} {l7 : Int32} {S : St} {res : (Int32 × St)} {H : Heap} {locs : List Loc} {ls : Array Slot}  (hd : Dy G S s H locs) (hl : lv_has ls 10 [(0, .ref (gR G 142)), (1, .int l1), (2, .int l2), (3, .int l3), (4, .int l4), (5, .int l5), (6, .int l6), (7, .int l7)]) (h : KX10_game_86 r86 l1 l2 l3 l4 l5 l6 l7 S = some res) : W p l e (rmL 7 0 0) s m args below meth c H locs 0 0 (MQ below (QI G res.1 res.2) args s 0 0 (Ab G)) (F0 m 86 ls []) := by
  unfold KX10_game_86 at h
  have hx := C.1.1
  have hb := C.1.2.1
  refine lv_iload hx hb dX10_game_86 (lv_at hl 7 rfl) ?_
  refine lv_iconst (v := 4) hx hb dX10_game_88 (by decide) ?_
  refine lv_icmp_ge (tgt := 187) hx hb dX10_game_89 (by decide) (fun c1 => ?_) (fun c1 => ?_)
  · rw [if_pos c1] at h
    refine lv_iload hx hb dX10_game_187 (lv_at hl 4 rfl) ?_
    refine lv_if_ne (tgt := 197) hx hb dX10_game_189 (by decide) (fun c2 => ?_) (fun c2 => ?_)
    · rw [if_neg c2] at h
      refine lv_iload hx hb dX10_game_197 (lv_at hl 6 rfl) ?_
      exact R_iret C hr hd h dX10_game_199
    · rw [if_pos c2] at h
      refine lv_iload hx hb dX10_game_192 (lv_at hl 5 rfl) ?_
      refine lv_goto (tgt := 199) hx hb dX10_game_194 (by decide) ?_
      exact R_iret C hr hd h dX10_game_199
  · rw [if_neg c1] at h
    refine lv_iload hx hb dX10_game_92 (lv_at hl 7 rfl) ?_
    refine lv_iconst (v := 2) hx hb dX10_game_94 (by decide) ?_
    refine R_div C h dX10_game_95 (fun x3 h => ?_)
    refine lv_istore (lv' := [(8, .int x3), (0, .ref (gR G 142)), (1, .int l1), (2, .int l2), (3, .int l3), (4, .int l4), (5, .int l5), (6, .int l6), (7, .int l7)]) hx hb dX10_game_96 hl (by decide) rfl (fun ls hl => ?_)
    refine lv_iload hx hb dX10_game_98 (lv_at hl 8 rfl) ?_
    refine lv_iconst (v := 2) hx hb dX10_game_100 (by decide) ?_
    refine R_rem C h dX10_game_101 (fun x4 h => ?_)
    refine lv_istore (lv' := [(9, .int x4), (8, .int x3), (0, .ref (gR G 142)), (1, .int l1), (2, .int l2), (3, .int l3), (4, .int l4), (5, .int l5), (6, .int l6), (7, .int l7)]) hx hb dX10_game_102 hl (by decide) rfl (fun ls hl => ?_)
    refine lv_aload_n hx hb dX10_game_104 rfl (lv_at hl 2 rfl) ?_
    refine lv_iload_n hx hb dX10_game_105 rfl (lv_at hl 3 rfl) ?_
    refine lv_iload_n hx hb dX10_game_106 rfl (lv_at hl 5 rfl) ?_
    refine lv_iconst (v := 1) hx hb dX10_game_107 (by decide) ?_
    refine lv_iload hx hb dX10_game_108 (lv_at hl 1 rfl) ?_
    refine lv_isub hx hb dX10_game_110 ?_
    refine lv_iload hx hb dX10_game_111 (lv_at hl 0 rfl) ?_
    obtain ⟨x5, S1, hc, h⟩ := bd_some h
    refine R_cVi C hd (ccX10_gain l G  hc) kX10_469 rfl (by decide) (rfl : kd 142 = 10) hl.1 ⟨by decide, by decide⟩ rfl rfl (Nat.le_of_ble_eq_true rfl) dX10_game_113 ⟨Nat.zero_le _, Nat.zero_le _⟩ (fun H locs hd => ?_)
    generalize S1 = S at h hd
    refine lv_aload_n hx hb dX10_game_116 rfl (lv_at hl 2 rfl) ?_
    refine lv_iload_n hx hb dX10_game_117 rfl (lv_at hl 3 rfl) ?_
    refine lv_iload_n hx hb dX10_game_118 rfl (lv_at hl 5 rfl) ?_
    refine lv_iload hx hb dX10_game_119 (lv_at hl 1 rfl) ?_
    refine lv_iload hx hb dX10_game_121 (lv_at hl 0 rfl) ?_
    obtain ⟨x6, S1, hc, h⟩ := bd_some h
    refine R_cVi C hd (ccX10_gain l G  hc) kX10_469 rfl (by decide) (rfl : kd 142 = 10) hl.1 ⟨by decide, by decide⟩ rfl rfl (Nat.le_of_ble_eq_true rfl) dX10_game_123 ⟨Nat.zero_le _, Nat.zero_le _⟩ (fun H locs hd => ?_)
    generalize S1 = S at h hd
    refine lv_icmp_gt (tgt := 181) hx hb dX10_game_126 (by decide) (fun c7 => ?_) (fun c7 => ?_)
    · rw [if_pos c7] at h
      exact sBX10_game_181 C hr hr86  hd (lv_sub hl [2, 3, 4, 5, 6, 7, 8, 9] rfl) h
    · rw [if_neg c7] at h
      refine lv_aload_n hx hb dX10_game_129 rfl (lv_at hl 2 rfl) ?_
      refine lv_iload_n hx hb dX10_game_130 rfl (lv_at hl 4 rfl) ?_
      refine lv_iload_n hx hb dX10_game_131 rfl (lv_at hl 5 rfl) ?_
      refine lv_iconst (v := 1) hx hb dX10_game_132 (by decide) ?_
      refine lv_iload hx hb dX10_game_133 (lv_at hl 0 rfl) ?_
      refine lv_isub hx hb dX10_game_135 ?_
      refine lv_iload hx hb dX10_game_136 (lv_at hl 1 rfl) ?_
      obtain ⟨x8, S1, hc, h⟩ := bd_some h
      refine R_cVi C hd (ccX10_gain l G  hc) kX10_469 rfl (by decide) (rfl : kd 142 = 10) hl.1 ⟨by decide, by decide⟩ rfl rfl (Nat.le_of_ble_eq_true rfl) dX10_game_138 ⟨Nat.zero_le _, Nat.zero_le _⟩ (fun H locs hd => ?_)
      generalize S1 = S at h hd
      refine lv_aload_n hx hb dX10_game_141 rfl (lv_at hl 2 rfl) ?_
      refine lv_iload_n hx hb dX10_game_142 rfl (lv_at hl 4 rfl) ?_
      refine lv_iload_n hx hb dX10_game_143 rfl (lv_at hl 5 rfl) ?_
      refine lv_iload hx hb dX10_game_144 (lv_at hl 0 rfl) ?_
      refine lv_iload hx hb dX10_game_146 (lv_at hl 1 rfl) ?_
      obtain ⟨x9, S1, hc, h⟩ := bd_some h
      refine R_cVi C hd (ccX10_gain l G  hc) kX10_469 rfl (by decide) (rfl : kd 142 = 10) hl.1 ⟨by decide, by decide⟩ rfl rfl (Nat.le_of_ble_eq_true rfl) dX10_game_148 ⟨Nat.zero_le _, Nat.zero_le _⟩ (fun H locs hd => ?_)
      generalize S1 = S at h hd
      refine lv_icmp_le (tgt := 157) hx hb dX10_game_151 (by decide) (fun c10 => ?_) (fun c10 => ?_)
      · rw [if_pos c10] at h
        refine R_vi h (fun x11 ex11 h => ?_)
        refine lv_iinc (v := x11) (lv' := [(5, .int x11), (9, .int x4), (8, .int x3), (0, .ref (gR G 142)), (1, .int l1), (2, .int l2), (3, .int l3), (4, .int l4), (6, .int l6), (7, .int l7)]) hx hb dX10_game_157 hl (k := 7) rfl (by rw [ex11]; rfl) (by decide) rfl (fun ls hl => ?_)
        refine lv_iload hx hb dX10_game_160 (lv_at hl 8 rfl) ?_
        refine lv_iconst (v := -1) hx hb dX10_game_162 (by decide) ?_
        refine lv_icmp_ne (tgt := 177) hx hb dX10_game_163 (by decide) (fun c12 => ?_) (fun c12 => ?_)
        · rw [if_neg c12] at h
          refine lv_iload hx hb dX10_game_177 (lv_at hl 8 rfl) ?_
          exact sBX10_game_179 C hr hr86  hd (lv_sub hl [3, 4, 5, 6, 7, 0, 9] rfl) h
        · rw [if_pos c12] at h
          refine lv_bipush (v := 10) hx hb dX10_game_166 (by decide) ?_
          refine lv_iload hx hb dX10_game_168 (lv_at hl 2 rfl) ?_
          refine lv_imul hx hb dX10_game_170 ?_
          refine lv_iload hx hb dX10_game_171 (lv_at hl 1 rfl) ?_
          refine lv_iadd hx hb dX10_game_173 ?_
          refine lv_goto (tgt := 179) hx hb dX10_game_174 (by decide) ?_
          exact sBX10_game_179 C hr hr86  hd (lv_sub hl [3, 4, 5, 6, 7, 0, 9] rfl) h
      · rw [if_neg c10] at h
        refine lv_goto (tgt := 181) hx hb dX10_game_154 (by decide) ?_
        exact sBX10_game_181 C hr hr86  hd (lv_sub hl [2, 3, 4, 5, 6, 7, 8, 9] rfl) h
def LX10_game_86 : Nat → Int32 → Int32 → Int32 → Int32 → Int32 → Int32 → Int32 → St → Option (Int32 × St)
  | 0 => fun _ _ _ _ _ _ _ _ => none
  | n + 1 => fun l1 l2 l3 l4 l5 l6 l7 S => KX10_game_86 (LX10_game_86 n) l1 l2 l3 l4 l5 l6 l7 S
theorem sLX10_game_86 (C : Cx p s m args meth c cX10_game 10 RX10 G) (hr : meth.sig.returnType = some .int) : ∀ (n : Nat) (l1 : Int32) (l2 : Int32) (l3 : Int32) (l4 : Int32) (l5 : Int32) (l6 : Int32) (l7 : Int32) (S : St) (res : (Int32 × St)) (H : Heap) (locs : List Loc) (ls : Array Slot), Dy G S s H locs → lv_has ls 10 [(0, .ref (gR G 142)), (1, .int l1), (2, .int l2), (3, .int l3), (4, .int l4), (5, .int l5), (6, .int l6), (7, .int l7)] → LX10_game_86 n l1 l2 l3 l4 l5 l6 l7 S = some res → W p l e (rmL 7 0 0) s m args below meth c H locs 0 0 (MQ below (QI G res.1 res.2) args s 0 0 (Ab G)) (F0 m 86 ls []) := by
  intro n
  induction n with
  | zero => intro l1 l2 l3 l4 l5 l6 l7 S res H locs ls  hd hl h; cases h
  | succ n ih =>
    intro l1 l2 l3 l4 l5 l6 l7 S res H locs ls  hd hl h
    exact sKX10_game_86 C hr ih  hd hl h
def fX10_game (a1 : Int32) (a2 : Int32) (a3 : Int32) (a4 : Int32) (S : St) : Option (Int32 × St) :=
  pf S 142 3 0 fun S => bd (fX10_isSinger a1 S) fun x1 S => (if x1 = 0 then (BX10_game_40  S) else bd (fX10_isSinger a2 S) fun x3 S => (if x3 = 0 then (BX10_game_40  S) else bd (fX10_isField a3 S) fun x5 S => (if x5 = 0 then (BX10_game_40  S) else (if a4 < 0 then (BX10_game_40  S) else (if a4 ≤ 1 then (if a1 = a2 then (BX10_game_71  S) else rd S 158 a1 fun x11 => rd S 158 a2 fun x13 => bd (fX10_isOf (x11 &&& x13) a3 S) fun x14 S => (if x14 = 0 then (BX10_game_71  S) else (LX10_game_86 FU a1 a2 a3 a4 0 ((-1)) 0 S))) else (BX10_game_40  S))))))
set_option maxHeartbeats 4000000 in
set_option maxRecDepth 20000 in
theorem sfX10_game (C : Cx p s m args meth c cX10_game 10 RX10 G) (hr : meth.sig.returnType = some .int) {a1 : Int32} {a2 : Int32} {a3 : Int32} {a4 : Int32} {S : St} {res : (Int32 × St)} {H : Heap} {locs : List Loc} {ls : Array Slot}  (hd : Dy G S s H locs) (hl : lv_has ls 10 [(0, .ref (gR G 142)), (1, .int a1), (2, .int a2), (3, .int a3), (4, .int a4)]) (h : fX10_game a1 a2 a3 a4 S = some res) : W p l e (rmL 7 0 0) s m args below meth c H locs 0 0 (MQ below (QI G res.1 res.2) args s 0 0 (Ab G)) (F0 m 0 ls []) := by
  unfold fX10_game at h
  have hx := C.1.1
  have hb := C.1.2.1
  refine lv_aload_n hx hb dX10_game_0 rfl (lv_at hl 0 rfl) ?_
  refine lv_iconst (v := 0) hx hb dX10_game_1 (by decide) ?_
  refine pX10_167 C hd (rfl : kd 142 = 10) h dX10_game_2 (fun S H locs hd h => ?_)
  refine lv_aload_n hx hb dX10_game_5 rfl (lv_at hl 0 rfl) ?_
  refine lv_iload_n hx hb dX10_game_6 rfl (lv_at hl 1 rfl) ?_
  obtain ⟨x1, S1, hc, h⟩ := bd_some h
  refine R_cVi C hd (ccX10_isSinger l G  hc) kX10_400 rfl (by decide) (rfl : kd 142 = 10) hl.1 ⟨by decide, by decide⟩ rfl rfl (Nat.le_of_ble_eq_true rfl) dX10_game_7 ⟨Nat.zero_le _, Nat.zero_le _⟩ (fun H locs hd => ?_)
  generalize S1 = S at h hd
  refine lv_if_eq (tgt := 40) hx hb dX10_game_10 (by decide) (fun c2 => ?_) (fun c2 => ?_)
  · rw [if_pos c2] at h
    exact sBX10_game_40 C hr  hd (lv_sub hl [0] rfl) h
  · rw [if_neg c2] at h
    refine lv_aload_n hx hb dX10_game_13 rfl (lv_at hl 0 rfl) ?_
    refine lv_iload_n hx hb dX10_game_14 rfl (lv_at hl 2 rfl) ?_
    obtain ⟨x3, S1, hc, h⟩ := bd_some h
    refine R_cVi C hd (ccX10_isSinger l G  hc) kX10_400 rfl (by decide) (rfl : kd 142 = 10) hl.1 ⟨by decide, by decide⟩ rfl rfl (Nat.le_of_ble_eq_true rfl) dX10_game_15 ⟨Nat.zero_le _, Nat.zero_le _⟩ (fun H locs hd => ?_)
    generalize S1 = S at h hd
    refine lv_if_eq (tgt := 40) hx hb dX10_game_18 (by decide) (fun c4 => ?_) (fun c4 => ?_)
    · rw [if_pos c4] at h
      exact sBX10_game_40 C hr  hd (lv_sub hl [0] rfl) h
    · rw [if_neg c4] at h
      refine lv_aload_n hx hb dX10_game_21 rfl (lv_at hl 0 rfl) ?_
      refine lv_iload_n hx hb dX10_game_22 rfl (lv_at hl 3 rfl) ?_
      obtain ⟨x5, S1, hc, h⟩ := bd_some h
      refine R_cVi C hd (ccX10_isField l G  hc) kX10_392 rfl (by decide) (rfl : kd 142 = 10) hl.1 ⟨by decide, by decide⟩ rfl rfl (Nat.le_of_ble_eq_true rfl) dX10_game_23 ⟨Nat.zero_le _, Nat.zero_le _⟩ (fun H locs hd => ?_)
      generalize S1 = S at h hd
      refine lv_if_eq (tgt := 40) hx hb dX10_game_26 (by decide) (fun c6 => ?_) (fun c6 => ?_)
      · rw [if_pos c6] at h
        exact sBX10_game_40 C hr  hd (lv_sub hl [0] rfl) h
      · rw [if_neg c6] at h
        refine lv_iload hx hb dX10_game_29 (lv_at hl 4 rfl) ?_
        refine lv_if_lt (tgt := 40) hx hb dX10_game_31 (by decide) (fun c7 => ?_) (fun c7 => ?_)
        · rw [if_pos c7] at h
          exact sBX10_game_40 C hr  hd (lv_sub hl [0] rfl) h
        · rw [if_neg c7] at h
          refine lv_iload hx hb dX10_game_34 (lv_at hl 4 rfl) ?_
          refine lv_iconst (v := 1) hx hb dX10_game_36 (by decide) ?_
          refine lv_icmp_le (tgt := 46) hx hb dX10_game_37 (by decide) (fun c8 => ?_) (fun c8 => ?_)
          · rw [if_pos c8] at h
            refine lv_iload_n hx hb dX10_game_46 rfl (lv_at hl 1 rfl) ?_
            refine lv_iload_n hx hb dX10_game_47 rfl (lv_at hl 2 rfl) ?_
            refine lv_icmp_eq (tgt := 71) hx hb dX10_game_48 (by decide) (fun c9 => ?_) (fun c9 => ?_)
            · rw [if_pos c9] at h
              exact sBX10_game_71 C hr  hd (lv_sub hl [0] rfl) h
            · rw [if_neg c9] at h
              refine lv_aload_n hx hb dX10_game_51 rfl (lv_at hl 0 rfl) ?_
              refine gX10_81 C hd (rfl : kd 142 = 10) (q := 158) rfl dX10_game_52 (fun y10 => ?_)
              refine lv_iload_n hx hb dX10_game_55 rfl (lv_at hl 1 rfl) ?_
              refine R_iald C hd y10 h dX10_game_56 (fun x11 h => ?_)
              refine lv_aload_n hx hb dX10_game_57 rfl (lv_at hl 0 rfl) ?_
              refine gX10_81 C hd (rfl : kd 142 = 10) (q := 158) rfl dX10_game_58 (fun y12 => ?_)
              refine lv_iload_n hx hb dX10_game_61 rfl (lv_at hl 2 rfl) ?_
              refine R_iald C hd y12 h dX10_game_62 (fun x13 h => ?_)
              refine lv_iand hx hb dX10_game_63 ?_
              refine lv_iload_n hx hb dX10_game_64 rfl (lv_at hl 3 rfl) ?_
              obtain ⟨x14, S1, hc, h⟩ := bd_some h
              refine R_cSi C hd (ccX10_isOf l G  hc) kX10_298  hl.1 ⟨by decide, by decide⟩ rfl rfl (Nat.le_of_ble_eq_true rfl) dX10_game_65 ⟨Nat.zero_le _, Nat.zero_le _⟩ (fun H locs hd => ?_)
              generalize S1 = S at h hd
              refine lv_if_ne (tgt := 77) hx hb dX10_game_68 (by decide) (fun c15 => ?_) (fun c15 => ?_)
              · rw [if_neg c15] at h
                refine lv_iconst (v := 0) hx hb dX10_game_77 (by decide) ?_
                refine lv_istore (lv' := [(5, .int 0), (0, .ref (gR G 142)), (1, .int a1), (2, .int a2), (3, .int a3), (4, .int a4)]) hx hb dX10_game_78 hl (by decide) rfl (fun ls hl => ?_)
                refine lv_iconst (v := -1) hx hb dX10_game_80 (by decide) ?_
                refine lv_istore (lv' := [(6, .int ((-1))), (5, .int 0), (0, .ref (gR G 142)), (1, .int a1), (2, .int a2), (3, .int a3), (4, .int a4)]) hx hb dX10_game_81 hl (by decide) rfl (fun ls hl => ?_)
                refine lv_iconst (v := 0) hx hb dX10_game_83 (by decide) ?_
                refine lv_istore (lv' := [(7, .int 0), (6, .int ((-1))), (5, .int 0), (0, .ref (gR G 142)), (1, .int a1), (2, .int a2), (3, .int a3), (4, .int a4)]) hx hb dX10_game_84 hl (by decide) rfl (fun ls hl => ?_)
                exact sLX10_game_86 C hr _ a1 a2 a3 a4 0 ((-1)) 0 _ _ _ _ _  hd (lv_sub hl [3, 4, 5, 6, 7, 2, 1, 0] rfl) h
              · rw [if_pos c15] at h
                exact sBX10_game_71 C hr  hd (lv_sub hl [0] rfl) h
          · rw [if_neg c8] at h
            exact sBX10_game_40 C hr  hd (lv_sub hl [0] rfl) h
set_option maxRecDepth 20000 in
theorem ccX10_game (l : Launch) (G : Gt) {a1 : Int32} {a2 : Int32} {a3 : Int32} {a4 : Int32} {S : St} {res : (Int32 × St)}  (h : fX10_game a1 a2 a3 a4 S = some res) : Met l yX10_game (wm yX10_game cX10_game 10 (some .int)) (rmL 7 0 0) (PcW G S [.ref (gR G 142), .int a1, .int a2, .int a3, .int a4]) (QI G res.1 res.2) 0 0 (Ab G) := by
  refine Met.ofW (cc := cX10_game) (maxL := 10) (ret := (some .int)) (by decide) rfl ?_
  intro p e s m args below meth c s₁ B hml hv
  obtain ⟨rfl, hK, hP⟩ := hv
  have C : Cx p s m _ meth c cX10_game 10 RX10 G := ⟨⟨B.exec, B.bytes, hml, findClass_of_methodNamed B.named, fun w hw => atoms_spec (ws := wm yX10_game cX10_game 10 (some .int)) B.pre w (List.mem_cons_of_mem _ hw)⟩, B.notSynchronized, hK⟩
  have hl := lv_entry ([.ref (gR G 142), .int a1, .int a2, .int a3, .int a4]) (n := 10) (Nat.le_of_ble_eq_true rfl)
  rw [lg_entry_eq]
  generalize (lg_sl ([.ref (gR G 142), .int a1, .int a2, .int a3, .int a4]) ++ List.replicate (10 - (lg_sl ([.ref (gR G 142), .int a1, .int a2, .int a3, .int a4])).length) Slot.unset).toArray = ls at hl ⊢
  exact sfX10_game C B.returns  ⟨hP, va_S.rf⟩ hl h
def fX10_drawOf (a1 : Int32) (S : St) : Option (Int32 × St) :=
  pf S 142 56 (((S 142 56) * 1103515245) + 12345) fun S => rm' (((S 142 56) >>> ((16 : Int32) &&& 31)) &&& 32767) a1 fun x1 => ri x1 S
set_option maxHeartbeats 4000000 in
set_option maxRecDepth 20000 in
theorem sfX10_drawOf (C : Cx p s m args meth c cX10_drawOf 2 RX10 G) (hr : meth.sig.returnType = some .int) {a1 : Int32} {S : St} {res : (Int32 × St)} {H : Heap} {locs : List Loc} {ls : Array Slot}  (hd : Dy G S s H locs) (hl : lv_has ls 2 [(0, .ref (gR G 142)), (1, .int a1)]) (h : fX10_drawOf a1 S = some res) : W p l e (rmL 3 0 0) s m args below meth c H locs 0 0 (MQ below (QI G res.1 res.2) args s 0 0 (Ab G)) (F0 m 0 ls []) := by
  unfold fX10_drawOf at h
  have hx := C.1.1
  have hb := C.1.2.1
  refine lv_aload_n hx hb dX10_drawOf_0 rfl (lv_at hl 0 rfl) ?_
  refine lv_aload_n hx hb dX10_drawOf_1 rfl (lv_at hl 0 rfl) ?_
  refine gX10_473 C hd (rfl : kd 142 = 10) dX10_drawOf_2 ?_
  refine lv_ldcw hx hb C.1.2.2.2.1 (C.1.2.2.2.2 _ kcX10_476) dX10_drawOf_5 ?_
  refine lv_imul hx hb dX10_drawOf_8 ?_
  refine lv_sipush (v := 12345) hx hb dX10_drawOf_9 (by decide) ?_
  refine lv_iadd hx hb dX10_drawOf_12 ?_
  refine pX10_473 C hd (rfl : kd 142 = 10) h dX10_drawOf_13 (fun S H locs hd h => ?_)
  refine lv_aload_n hx hb dX10_drawOf_16 rfl (lv_at hl 0 rfl) ?_
  refine gX10_473 C hd (rfl : kd 142 = 10) dX10_drawOf_17 ?_
  refine lv_bipush (v := 16) hx hb dX10_drawOf_20 (by decide) ?_
  refine lv_ishr hx hb dX10_drawOf_22 ?_
  refine lv_sipush (v := 32767) hx hb dX10_drawOf_23 (by decide) ?_
  refine lv_iand hx hb dX10_drawOf_26 ?_
  refine lv_iload_n hx hb dX10_drawOf_27 rfl (lv_at hl 1 rfl) ?_
  refine R_rem C h dX10_drawOf_28 (fun x1 h => ?_)
  exact R_iret C hr hd h dX10_drawOf_29
set_option maxRecDepth 20000 in
theorem ccX10_drawOf (l : Launch) (G : Gt) {a1 : Int32} {S : St} {res : (Int32 × St)}  (h : fX10_drawOf a1 S = some res) : Met l yX10_drawOf (wm yX10_drawOf cX10_drawOf 2 (some .int)) (rmL 3 0 0) (PcW G S [.ref (gR G 142), .int a1]) (QI G res.1 res.2) 0 0 (Ab G) := by
  refine Met.ofW (cc := cX10_drawOf) (maxL := 2) (ret := (some .int)) (by decide) rfl ?_
  intro p e s m args below meth c s₁ B hml hv
  obtain ⟨rfl, hK, hP⟩ := hv
  have C : Cx p s m _ meth c cX10_drawOf 2 RX10 G := ⟨⟨B.exec, B.bytes, hml, findClass_of_methodNamed B.named, fun w hw => atoms_spec (ws := wm yX10_drawOf cX10_drawOf 2 (some .int)) B.pre w (List.mem_cons_of_mem _ hw)⟩, B.notSynchronized, hK⟩
  have hl := lv_entry ([.ref (gR G 142), .int a1]) (n := 2) (Nat.le_of_ble_eq_true rfl)
  rw [lg_entry_eq]
  generalize (lg_sl ([.ref (gR G 142), .int a1]) ++ List.replicate (2 - (lg_sl ([.ref (gR G 142), .int a1])).length) Slot.unset).toArray = ls at hl ⊢
  exact sfX10_drawOf C B.returns  ⟨hP, va_S.rf⟩ hl h
def BX10_lark_90 (r55 : Int32 → Int32 → Int32 → St → Option St) (l1 : Int32) (l3 : Int32) (l4 : Int32) (s1 : Int32) (s2 : Int32) (s3 : Int32) (S : St) : Option St :=
  wr S 158 s1 (s2 ||| s3) fun S => vl (l4 + 1) fun x1 => (r55 l1 l3 x1 S)
set_option maxHeartbeats 4000000 in
set_option maxRecDepth 20000 in
theorem sBX10_lark_90 (C : Cx p s m args meth c cX10_lark 5 RX10 G) (hr : meth.sig.returnType = none) {r55 : Int32 → Int32 → Int32 → St → Option St} (hr55 : ∀ (l1 : Int32) (l3 : Int32) (l4 : Int32) (S : St) (res : St) (H : Heap) (locs : List Loc) (ls : Array Slot), Dy G S s H locs → lv_has ls 5 [(0, .ref (gR G 142)), (1, .int l1), (3, .int l3), (4, .int l4)] → r55 l1 l3 l4 S = some res → W p l e (rmL 5 0 0) s m args below meth c H locs 0 0 (MQ below (QV G res) args s 0 0 (Ab G)) (F0 m 55 ls [])) {l1 : Int32} {l3 : Int32} {l4 : Int32} {s1 : Int32} {s2 : Int32} {s3 : Int32} {S : St} {res : St} {H : Heap} {locs : List Loc} {ls : Array Slot}  (hd : Dy G S s H locs) (hl : lv_has ls 5 [(0, .ref (gR G 142)), (1, .int l1), (3, .int l3), (4, .int l4)]) (h : BX10_lark_90 r55 l1 l3 l4 s1 s2 s3 S = some res) : W p l e (rmL 5 0 0) s m args below meth c H locs 0 0 (MQ below (QV G res) args s 0 0 (Ab G)) (F0 m 90 ls [.int s3, .int s2, .int s1, .ref (gR G 158)]) := by
  unfold BX10_lark_90 at h
  have hx := C.1.1
  have hb := C.1.2.1
  refine lv_ior hx hb dX10_lark_90 ?_
  refine R_iast C hd (rfl : kd 158 = 20) h dX10_lark_91 (fun S H locs hd h => ?_)
  refine R_vi h (fun x1 ex1 h => ?_)
  refine lv_iinc (v := x1) (lv' := [(4, .int x1), (0, .ref (gR G 142)), (1, .int l1), (3, .int l3)]) hx hb dX10_lark_92 hl (k := 3) rfl (by rw [ex1]; rfl) (by decide) rfl (fun ls hl => ?_)
  refine lv_goto (tgt := 55) hx hb dX10_lark_95 (by decide) ?_
  exact hr55 l1 l3 x1 _ _ _ _ _  hd (lv_sub hl [1, 2, 3, 0] rfl) h
def KX10_lark_55 (r55 : Int32 → Int32 → Int32 → St → Option St) (l1 : Int32) (l3 : Int32) (l4 : Int32) (S : St) : Option St :=
  rd S 145 2 fun x2 => (if x2 ≤ l4 then some S else rd S 158 l4 fun x5 => bd (fX10_isOf l3 l4 S) fun x6 S => (if x6 = 0 then (BX10_lark_90 r55 l1 l3 l4 l4 x5 0 S) else (BX10_lark_90 r55 l1 l3 l4 l4 x5 ((1 : Int32) <<< (l1 &&& 31)) S)))
set_option maxHeartbeats 4000000 in
set_option maxRecDepth 20000 in
theorem sKX10_lark_55 (C : Cx p s m args meth c cX10_lark 5 RX10 G) (hr : meth.sig.returnType = none) {r55 : Int32 → Int32 → Int32 → St → Option St} (hr55 : ∀ (l1 : Int32) (l3 : Int32) (l4 : Int32) (S : St) (res : St) (H : Heap) (locs : List Loc) (ls : Array Slot), Dy G S s H locs → lv_has ls 5 [(0, .ref (gR G 142)), (1, .int l1), (3, .int l3), (4, .int l4)] → r55 l1 l3 l4 S = some res → W p l e (rmL 5 0 0) s m args below meth c H locs 0 0 (MQ below (QV G res) args s 0 0 (Ab G)) (F0 m 55 ls [])) {l1 : Int32} {l3 : Int32} {l4 : Int32} {S : St} {res : St} {H : Heap} {locs : List Loc} {ls : Array Slot}  (hd : Dy G S s H locs) (hl : lv_has ls 5 [(0, .ref (gR G 142)), (1, .int l1), (3, .int l3), (4, .int l4)]) (h : KX10_lark_55 r55 l1 l3 l4 S = some res) : W p l e (rmL 5 0 0) s m args below meth c H locs 0 0 (MQ below (QV G res) args s 0 0 (Ab G)) (F0 m 55 ls []) := by
  unfold KX10_lark_55 at h
  have hx := C.1.1
  have hb := C.1.2.1
  refine lv_iload hx hb dX10_lark_55 (lv_at hl 3 rfl) ?_
  refine lv_aload_n hx hb dX10_lark_57 rfl (lv_at hl 0 rfl) ?_
  refine gX10_39 C hd (rfl : kd 142 = 10) (q := 145) rfl dX10_lark_58 (fun y1 => ?_)
  refine lv_iconst (v := 2) hx hb dX10_lark_61 (by decide) ?_
  refine R_iald C hd y1 h dX10_lark_62 (fun x2 h => ?_)
  refine lv_icmp_ge (tgt := 98) hx hb dX10_lark_63 (by decide) (fun c3 => ?_) (fun c3 => ?_)
  · rw [if_pos c3] at h
    exact R_vret C hr hd h dX10_lark_98
  · rw [if_neg c3] at h
    refine lv_aload_n hx hb dX10_lark_66 rfl (lv_at hl 0 rfl) ?_
    refine gX10_81 C hd (rfl : kd 142 = 10) (q := 158) rfl dX10_lark_67 (fun y4 => ?_)
    refine lv_iload hx hb dX10_lark_70 (lv_at hl 3 rfl) ?_
    refine lv_dup2_11 hx hb dX10_lark_72 rfl rfl ?_
    refine R_iald C hd y4 h dX10_lark_73 (fun x5 h => ?_)
    refine lv_iload_n hx hb dX10_lark_74 rfl (lv_at hl 2 rfl) ?_
    refine lv_iload hx hb dX10_lark_75 (lv_at hl 3 rfl) ?_
    obtain ⟨x6, S1, hc, h⟩ := bd_some h
    refine R_cSi C hd (ccX10_isOf l G  hc) kX10_298  hl.1 ⟨by decide, by decide⟩ rfl rfl (Nat.le_of_ble_eq_true rfl) dX10_lark_77 ⟨Nat.zero_le _, Nat.zero_le _⟩ (fun H locs hd => ?_)
    generalize S1 = S at h hd
    refine lv_if_eq (tgt := 89) hx hb dX10_lark_80 (by decide) (fun c7 => ?_) (fun c7 => ?_)
    · rw [if_pos c7] at h
      refine lv_iconst (v := 0) hx hb dX10_lark_89 (by decide) ?_
      exact sBX10_lark_90 C hr hr55  hd (lv_sub hl [0, 1, 2, 3] rfl) h
    · rw [if_neg c7] at h
      refine lv_iconst (v := 1) hx hb dX10_lark_83 (by decide) ?_
      refine lv_iload_n hx hb dX10_lark_84 rfl (lv_at hl 1 rfl) ?_
      refine lv_ishl hx hb dX10_lark_85 ?_
      refine lv_goto (tgt := 90) hx hb dX10_lark_86 (by decide) ?_
      exact sBX10_lark_90 C hr hr55  hd (lv_sub hl [0, 1, 2, 3] rfl) h
def LX10_lark_55 : Nat → Int32 → Int32 → Int32 → St → Option St
  | 0 => fun _ _ _ _ => none
  | n + 1 => fun l1 l3 l4 S => KX10_lark_55 (LX10_lark_55 n) l1 l3 l4 S
theorem sLX10_lark_55 (C : Cx p s m args meth c cX10_lark 5 RX10 G) (hr : meth.sig.returnType = none) : ∀ (n : Nat) (l1 : Int32) (l3 : Int32) (l4 : Int32) (S : St) (res : St) (H : Heap) (locs : List Loc) (ls : Array Slot), Dy G S s H locs → lv_has ls 5 [(0, .ref (gR G 142)), (1, .int l1), (3, .int l3), (4, .int l4)] → LX10_lark_55 n l1 l3 l4 S = some res → W p l e (rmL 5 0 0) s m args below meth c H locs 0 0 (MQ below (QV G res) args s 0 0 (Ab G)) (F0 m 55 ls []) := by
  intro n
  induction n with
  | zero => intro l1 l3 l4 S res H locs ls  hd hl h; cases h
  | succ n ih =>
    intro l1 l3 l4 S res H locs ls  hd hl h
    exact sKX10_lark_55 C hr ih  hd hl h
def fX10_lark  (S : St) : Option St :=
  rd S 145 0 fun x2 => (if x2 = 0 then some S else rd S 145 2 fun x5 => (if x5 = 0 then some S else rd S 145 0 fun x8 => bd (fX10_drawOf x8 S) fun x9 S => rd S 145 2 fun x11 => bd (fX10_drawOf x11 S) fun x12 S => bd (fX10_placeOf x12 S) fun x13 S => bd (fX10_hearers x13 ((-1)) S) fun x14 S => (LX10_lark_55 FU x9 x14 0 S)))
set_option maxHeartbeats 4000000 in
set_option maxRecDepth 20000 in
theorem sfX10_lark (C : Cx p s m args meth c cX10_lark 5 RX10 G) (hr : meth.sig.returnType = none)  {S : St} {res : St} {H : Heap} {locs : List Loc} {ls : Array Slot}  (hd : Dy G S s H locs) (hl : lv_has ls 5 [(0, .ref (gR G 142))]) (h : fX10_lark  S = some res) : W p l e (rmL 5 0 0) s m args below meth c H locs 0 0 (MQ below (QV G res) args s 0 0 (Ab G)) (F0 m 0 ls []) := by
  unfold fX10_lark at h
  have hx := C.1.1
  have hb := C.1.2.1
  refine lv_aload_n hx hb dX10_lark_0 rfl (lv_at hl 0 rfl) ?_
  refine gX10_39 C hd (rfl : kd 142 = 10) (q := 145) rfl dX10_lark_1 (fun y1 => ?_)
  refine lv_iconst (v := 0) hx hb dX10_lark_4 (by decide) ?_
  refine R_iald C hd y1 h dX10_lark_5 (fun x2 h => ?_)
  refine lv_if_eq (tgt := 18) hx hb dX10_lark_6 (by decide) (fun c3 => ?_) (fun c3 => ?_)
  · rw [if_pos c3] at h
    exact R_vret C hr hd h dX10_lark_18
  · rw [if_neg c3] at h
    refine lv_aload_n hx hb dX10_lark_9 rfl (lv_at hl 0 rfl) ?_
    refine gX10_39 C hd (rfl : kd 142 = 10) (q := 145) rfl dX10_lark_10 (fun y4 => ?_)
    refine lv_iconst (v := 2) hx hb dX10_lark_13 (by decide) ?_
    refine R_iald C hd y4 h dX10_lark_14 (fun x5 h => ?_)
    refine lv_if_ne (tgt := 19) hx hb dX10_lark_15 (by decide) (fun c6 => ?_) (fun c6 => ?_)
    · rw [if_neg c6] at h
      refine lv_aload_n hx hb dX10_lark_19 rfl (lv_at hl 0 rfl) ?_
      refine lv_aload_n hx hb dX10_lark_20 rfl (lv_at hl 0 rfl) ?_
      refine gX10_39 C hd (rfl : kd 142 = 10) (q := 145) rfl dX10_lark_21 (fun y7 => ?_)
      refine lv_iconst (v := 0) hx hb dX10_lark_24 (by decide) ?_
      refine R_iald C hd y7 h dX10_lark_25 (fun x8 h => ?_)
      obtain ⟨x9, S1, hc, h⟩ := bd_some h
      refine R_cVi C hd (ccX10_drawOf l G  hc) kX10_477 rfl (by decide) (rfl : kd 142 = 10) hl.1 ⟨by decide, by decide⟩ rfl rfl (Nat.le_of_ble_eq_true rfl) dX10_lark_26 ⟨Nat.zero_le _, Nat.zero_le _⟩ (fun H locs hd => ?_)
      generalize S1 = S at h hd
      refine lv_istore_n (lv' := [(1, .int x9), (0, .ref (gR G 142))]) hx hb dX10_lark_29 rfl hl (by decide) rfl (fun ls hl => ?_)
      refine lv_aload_n hx hb dX10_lark_30 rfl (lv_at hl 1 rfl) ?_
      refine lv_aload_n hx hb dX10_lark_31 rfl (lv_at hl 1 rfl) ?_
      refine lv_aload_n hx hb dX10_lark_32 rfl (lv_at hl 1 rfl) ?_
      refine gX10_39 C hd (rfl : kd 142 = 10) (q := 145) rfl dX10_lark_33 (fun y10 => ?_)
      refine lv_iconst (v := 2) hx hb dX10_lark_36 (by decide) ?_
      refine R_iald C hd y10 h dX10_lark_37 (fun x11 h => ?_)
      obtain ⟨x12, S1, hc, h⟩ := bd_some h
      refine R_cVi C hd (ccX10_drawOf l G  hc) kX10_477 rfl (by decide) (rfl : kd 142 = 10) hl.1 ⟨by decide, by decide⟩ rfl rfl (Nat.le_of_ble_eq_true rfl) dX10_lark_38 ⟨Nat.zero_le _, Nat.zero_le _⟩ (fun H locs hd => ?_)
      generalize S1 = S at h hd
      obtain ⟨x13, S1, hc, h⟩ := bd_some h
      refine R_cVi C hd (ccX10_placeOf l G  hc) kX10_359 rfl (by decide) (rfl : kd 142 = 10) hl.1 ⟨by decide, by decide⟩ rfl rfl (Nat.le_of_ble_eq_true rfl) dX10_lark_41 ⟨Nat.zero_le _, Nat.zero_le _⟩ (fun H locs hd => ?_)
      generalize S1 = S at h hd
      refine lv_istore_n (lv' := [(2, .int x13), (1, .int x9), (0, .ref (gR G 142))]) hx hb dX10_lark_44 rfl hl (by decide) rfl (fun ls hl => ?_)
      refine lv_aload_n hx hb dX10_lark_45 rfl (lv_at hl 2 rfl) ?_
      refine lv_iload_n hx hb dX10_lark_46 rfl (lv_at hl 0 rfl) ?_
      refine lv_iconst (v := -1) hx hb dX10_lark_47 (by decide) ?_
      obtain ⟨x14, S1, hc, h⟩ := bd_some h
      refine R_cVi C hd (ccX10_hearers l G  hc) kX10_375 rfl (by decide) (rfl : kd 142 = 10) hl.1 ⟨by decide, by decide⟩ rfl rfl (Nat.le_of_ble_eq_true rfl) dX10_lark_48 ⟨Nat.zero_le _, Nat.zero_le _⟩ (fun H locs hd => ?_)
      generalize S1 = S at h hd
      refine lv_istore_n (lv' := [(3, .int x14), (2, .int x13), (1, .int x9), (0, .ref (gR G 142))]) hx hb dX10_lark_51 rfl hl (by decide) rfl (fun ls hl => ?_)
      refine lv_iconst (v := 0) hx hb dX10_lark_52 (by decide) ?_
      refine lv_istore (lv' := [(4, .int 0), (3, .int x14), (2, .int x13), (1, .int x9), (0, .ref (gR G 142))]) hx hb dX10_lark_53 hl (by decide) rfl (fun ls hl => ?_)
      exact sLX10_lark_55 C hr _ x9 x14 0 _ _ _ _ _  hd (lv_sub hl [4, 3, 1, 0] rfl) h
    · rw [if_pos c6] at h
      exact R_vret C hr hd h dX10_lark_18
set_option maxRecDepth 20000 in
theorem ccX10_lark (l : Launch) (G : Gt)  {S : St} {res : St}  (h : fX10_lark  S = some res) : Met l yX10_lark (wm yX10_lark cX10_lark 5 (none)) (rmL 5 0 0) (PcW G S [.ref (gR G 142)]) (QV G res) 0 0 (Ab G) := by
  refine Met.ofW (cc := cX10_lark) (maxL := 5) (ret := none) (by decide) rfl ?_
  intro p e s m args below meth c s₁ B hml hv
  obtain ⟨rfl, hK, hP⟩ := hv
  have C : Cx p s m _ meth c cX10_lark 5 RX10 G := ⟨⟨B.exec, B.bytes, hml, findClass_of_methodNamed B.named, fun w hw => atoms_spec (ws := wm yX10_lark cX10_lark 5 (none)) B.pre w (List.mem_cons_of_mem _ hw)⟩, B.notSynchronized, hK⟩
  have hl := lv_entry ([.ref (gR G 142)]) (n := 5) (Nat.le_of_ble_eq_true rfl)
  rw [lg_entry_eq]
  generalize (lg_sl ([.ref (gR G 142)]) ++ List.replicate (5 - (lg_sl ([.ref (gR G 142)])).length) Slot.unset).toArray = ls at hl ⊢
  exact sfX10_lark C B.returns  ⟨hP, va_S.rf⟩ hl h
def KX10_larks_117 (r117 : Int32 → Int32 → Int32 → Int32 → Int32 → St → Option (Int32 × St)) (l3 : Int32) (l5 : Int32) (l6 : Int32) (l7 : Int32) (l8 : Int32) (S : St) : Option (Int32 × St) :=
  rd S 145 2 fun x2 => (if x2 ≤ l8 then bv (fX10_unpack 169 0 S) fun S => (if l3 = 0 then ri l6 S else (if l3 = 1 then ri l5 S else ri l7 S)) else rd S 158 l8 fun x8 => bd (fX10_bitsOf x8 S) fun x9 S => vl (l6 + x9) fun x10 => rd S 159 l8 fun x12 => vl (if l7 < x12 then x12 else l7) fun x13 => vl (l8 + 1) fun x14 => (r117 l3 l5 x10 x13 x14 S))
set_option maxHeartbeats 4000000 in
set_option maxRecDepth 20000 in
theorem sKX10_larks_117 (C : Cx p s m args meth c cX10_larks 9 RX10 G) (hr : meth.sig.returnType = some .int) {r117 : Int32 → Int32 → Int32 → Int32 → Int32 → St → Option (Int32 × St)} (hr117 : ∀ (l3 : Int32) (l5 : Int32) (l6 : Int32) (l7 : Int32) (l8 : Int32) (S : St) (res : (Int32 × St)) (H : Heap) (locs : List Loc) (ls : Array Slot), Dy G S s H locs → lv_has ls 9 [(0, .ref (gR G 142)), (3, .int l3), (5, .int l5), (6, .int l6), (7, .int l7), (8, .int l8)] → r117 l3 l5 l6 l7 l8 S = some res → W p l e (rmL 8 0 0) s m args below meth c H locs 0 0 (MQ below (QI G res.1 res.2) args s 0 0 (Ab G)) (F0 m 117 ls [])) {l3 : Int32} {l5 : Int32} {l6 : Int32} {l7 : Int32} {l8 : Int32} {S : St} {res : (Int32 × St)} {H : Heap} {locs : List Loc} {ls : Array Slot}  (hd : Dy G S s H locs) (hl : lv_has ls 9 [(0, .ref (gR G 142)), (3, .int l3), (5, .int l5), (6, .int l6), (7, .int l7), (8, .int l8)]) (h : KX10_larks_117 r117 l3 l5 l6 l7 l8 S = some res) : W p l e (rmL 8 0 0) s m args below meth c H locs 0 0 (MQ below (QI G res.1 res.2) args s 0 0 (Ab G)) (F0 m 117 ls []) := by
  unfold KX10_larks_117 at h
  have hx := C.1.1
  have hb := C.1.2.1
  refine lv_iload hx hb dX10_larks_117 (lv_at hl 5 rfl) ?_
  refine lv_aload_n hx hb dX10_larks_119 rfl (lv_at hl 0 rfl) ?_
  refine gX10_39 C hd (rfl : kd 142 = 10) (q := 145) rfl dX10_larks_120 (fun y1 => ?_)
  refine lv_iconst (v := 2) hx hb dX10_larks_123 (by decide) ?_
  refine R_iald C hd y1 h dX10_larks_124 (fun x2 h => ?_)
  refine lv_icmp_ge (tgt := 163) hx hb dX10_larks_125 (by decide) (fun c3 => ?_) (fun c3 => ?_)
  · rw [if_pos c3] at h
    refine lv_aload_n hx hb dX10_larks_163 rfl (lv_at hl 0 rfl) ?_
    refine lv_aload_n hx hb dX10_larks_164 rfl (lv_at hl 0 rfl) ?_
    refine gX10_116 C hd (rfl : kd 142 = 10) (q := 169) rfl dX10_larks_165 (fun y4 => ?_)
    refine lv_iconst (v := 0) hx hb dX10_larks_168 (by decide) ?_
    obtain ⟨S1, hc, h⟩ := bv_some h
    refine R_cVv C hd (ccX10_unpack l G y4 hc) kX10_430 rfl (by decide) (rfl : kd 142 = 10) hl.1 ⟨by decide, by decide⟩ rfl rfl (Nat.le_of_ble_eq_true rfl) dX10_larks_169 ⟨Nat.zero_le _, Nat.zero_le _⟩ (fun H locs hd => ?_)
    generalize S1 = S at h hd
    refine lv_iload_n hx hb dX10_larks_172 rfl (lv_at hl 1 rfl) ?_
    refine lv_if_ne (tgt := 181) hx hb dX10_larks_173 (by decide) (fun c5 => ?_) (fun c5 => ?_)
    · rw [if_neg c5] at h
      refine lv_iload_n hx hb dX10_larks_181 rfl (lv_at hl 1 rfl) ?_
      refine lv_iconst (v := 1) hx hb dX10_larks_182 (by decide) ?_
      refine lv_icmp_ne (tgt := 191) hx hb dX10_larks_183 (by decide) (fun c6 => ?_) (fun c6 => ?_)
      · rw [if_neg c6] at h
        refine lv_iload hx hb dX10_larks_191 (lv_at hl 4 rfl) ?_
        exact R_iret C hr hd h dX10_larks_193
      · rw [if_pos c6] at h
        refine lv_iload hx hb dX10_larks_186 (lv_at hl 2 rfl) ?_
        refine lv_goto (tgt := 193) hx hb dX10_larks_188 (by decide) ?_
        exact R_iret C hr hd h dX10_larks_193
    · rw [if_pos c5] at h
      refine lv_iload hx hb dX10_larks_176 (lv_at hl 3 rfl) ?_
      refine lv_goto (tgt := 193) hx hb dX10_larks_178 (by decide) ?_
      exact R_iret C hr hd h dX10_larks_193
  · rw [if_neg c3] at h
    refine lv_iload hx hb dX10_larks_128 (lv_at hl 3 rfl) ?_
    refine lv_aload_n hx hb dX10_larks_130 rfl (lv_at hl 0 rfl) ?_
    refine gX10_81 C hd (rfl : kd 142 = 10) (q := 158) rfl dX10_larks_131 (fun y7 => ?_)
    refine lv_iload hx hb dX10_larks_134 (lv_at hl 5 rfl) ?_
    refine R_iald C hd y7 h dX10_larks_136 (fun x8 h => ?_)
    obtain ⟨x9, S1, hc, h⟩ := bd_some h
    refine R_cSi C hd (ccX10_bitsOf l G  hc) kX10_362  hl.1 ⟨by decide, by decide⟩ rfl rfl (Nat.le_of_ble_eq_true rfl) dX10_larks_137 ⟨Nat.zero_le _, Nat.zero_le _⟩ (fun H locs hd => ?_)
    generalize S1 = S at h hd
    refine lv_iadd hx hb dX10_larks_140 ?_
    refine R_vl h (fun x10 h => ?_)
    refine lv_istore (lv' := [(6, .int x10), (0, .ref (gR G 142)), (3, .int l3), (5, .int l5), (7, .int l7), (8, .int l8)]) hx hb dX10_larks_141 hl (by decide) rfl (fun ls hl => ?_)
    refine lv_iload hx hb dX10_larks_143 (lv_at hl 4 rfl) ?_
    refine lv_aload_n hx hb dX10_larks_145 rfl (lv_at hl 1 rfl) ?_
    refine gX10_83 C hd (rfl : kd 142 = 10) (q := 159) rfl dX10_larks_146 (fun y11 => ?_)
    refine lv_iload hx hb dX10_larks_149 (lv_at hl 5 rfl) ?_
    refine R_iald C hd y11 h dX10_larks_151 (fun x12 h => ?_)
    refine R_mmax C hl.1 kmX10_369 (Nat.le_of_ble_eq_true rfl) (Nat.le_of_ble_eq_true rfl) (Nat.le_of_ble_eq_true rfl) (Nat.le_of_ble_eq_true rfl) dX10_larks_152 ?_
    refine R_vl h (fun x13 h => ?_)
    refine lv_istore (lv' := [(7, .int x13), (6, .int x10), (0, .ref (gR G 142)), (3, .int l3), (5, .int l5), (8, .int l8)]) hx hb dX10_larks_155 hl (by decide) rfl (fun ls hl => ?_)
    refine R_vi h (fun x14 ex14 h => ?_)
    refine lv_iinc (v := x14) (lv' := [(8, .int x14), (7, .int x13), (6, .int x10), (0, .ref (gR G 142)), (3, .int l3), (5, .int l5)]) hx hb dX10_larks_157 hl (k := 5) rfl (by rw [ex14]; rfl) (by decide) rfl (fun ls hl => ?_)
    refine lv_goto (tgt := 117) hx hb dX10_larks_160 (by decide) ?_
    exact hr117 l3 l5 x10 x13 x14 _ _ _ _ _  hd (lv_sub hl [3, 4, 5, 2, 1, 0] rfl) h
def LX10_larks_117 : Nat → Int32 → Int32 → Int32 → Int32 → Int32 → St → Option (Int32 × St)
  | 0 => fun _ _ _ _ _ _ => none
  | n + 1 => fun l3 l5 l6 l7 l8 S => KX10_larks_117 (LX10_larks_117 n) l3 l5 l6 l7 l8 S
theorem sLX10_larks_117 (C : Cx p s m args meth c cX10_larks 9 RX10 G) (hr : meth.sig.returnType = some .int) : ∀ (n : Nat) (l3 : Int32) (l5 : Int32) (l6 : Int32) (l7 : Int32) (l8 : Int32) (S : St) (res : (Int32 × St)) (H : Heap) (locs : List Loc) (ls : Array Slot), Dy G S s H locs → lv_has ls 9 [(0, .ref (gR G 142)), (3, .int l3), (5, .int l5), (6, .int l6), (7, .int l7), (8, .int l8)] → LX10_larks_117 n l3 l5 l6 l7 l8 S = some res → W p l e (rmL 8 0 0) s m args below meth c H locs 0 0 (MQ below (QI G res.1 res.2) args s 0 0 (Ab G)) (F0 m 117 ls []) := by
  intro n
  induction n with
  | zero => intro l3 l5 l6 l7 l8 S res H locs ls  hd hl h; cases h
  | succ n ih =>
    intro l3 l5 l6 l7 l8 S res H locs ls  hd hl h
    exact sKX10_larks_117 C hr ih  hd hl h
def BX10_larks_112 (l3 : Int32) (l5 : Int32) (l6 : Int32) (s0 : Int32) (S : St) : Option (Int32 × St) :=
  (LX10_larks_117 FU l3 l5 l6 s0 0 S)
set_option maxHeartbeats 4000000 in
set_option maxRecDepth 20000 in
theorem sBX10_larks_112 (C : Cx p s m args meth c cX10_larks 9 RX10 G) (hr : meth.sig.returnType = some .int) {l3 : Int32} {l5 : Int32} {l6 : Int32} {s0 : Int32} {S : St} {res : (Int32 × St)} {H : Heap} {locs : List Loc} {ls : Array Slot}  (hd : Dy G S s H locs) (hl : lv_has ls 9 [(0, .ref (gR G 142)), (3, .int l3), (5, .int l5), (6, .int l6)]) (h : BX10_larks_112 l3 l5 l6 s0 S = some res) : W p l e (rmL 8 0 0) s m args below meth c H locs 0 0 (MQ below (QI G res.1 res.2) args s 0 0 (Ab G)) (F0 m 112 ls [.int s0]) := by
  unfold BX10_larks_112 at h
  have hx := C.1.1
  have hb := C.1.2.1
  refine lv_istore (lv' := [(7, .int s0), (0, .ref (gR G 142)), (3, .int l3), (5, .int l5), (6, .int l6)]) hx hb dX10_larks_112 hl (by decide) rfl (fun ls hl => ?_)
  refine lv_iconst (v := 0) hx hb dX10_larks_114 (by decide) ?_
  refine lv_istore (lv' := [(8, .int 0), (7, .int s0), (0, .ref (gR G 142)), (3, .int l3), (5, .int l5), (6, .int l6)]) hx hb dX10_larks_115 hl (by decide) rfl (fun ls hl => ?_)
  exact sLX10_larks_117 C hr _ l3 l5 l6 s0 0 _ _ _ _ _  hd (lv_sub hl [2, 3, 4, 5, 1, 0] rfl) h
def KX10_larks_64 (r64 : Int32 → Int32 → Int32 → Int32 → St → Option (Int32 × St)) (l2 : Int32) (l3 : Int32) (l4 : Int32) (l5 : Int32) (S : St) : Option (Int32 × St) :=
  (if l2 ≤ l5 then vl ((S 142 35) - l4) fun x2 => rd S 145 2 fun x4 => (if x4 = 0 then (BX10_larks_112 l3 x2 0 0 S) else (BX10_larks_112 l3 x2 0 ((-9999)) S)) else bv (fX10_lark  S) fun S => bv (fX10_anHour  S) fun S => vl (l5 + 1) fun x6 => (r64 l2 l3 l4 x6 S))
set_option maxHeartbeats 4000000 in
set_option maxRecDepth 20000 in
theorem sKX10_larks_64 (C : Cx p s m args meth c cX10_larks 9 RX10 G) (hr : meth.sig.returnType = some .int) {r64 : Int32 → Int32 → Int32 → Int32 → St → Option (Int32 × St)} (hr64 : ∀ (l2 : Int32) (l3 : Int32) (l4 : Int32) (l5 : Int32) (S : St) (res : (Int32 × St)) (H : Heap) (locs : List Loc) (ls : Array Slot), Dy G S s H locs → lv_has ls 9 [(0, .ref (gR G 142)), (2, .int l2), (3, .int l3), (4, .int l4), (5, .int l5)] → r64 l2 l3 l4 l5 S = some res → W p l e (rmL 8 0 0) s m args below meth c H locs 0 0 (MQ below (QI G res.1 res.2) args s 0 0 (Ab G)) (F0 m 64 ls [])) {l2 : Int32} {l3 : Int32} {l4 : Int32} {l5 : Int32} {S : St} {res : (Int32 × St)} {H : Heap} {locs : List Loc} {ls : Array Slot}  (hd : Dy G S s H locs) (hl : lv_has ls 9 [(0, .ref (gR G 142)), (2, .int l2), (3, .int l3), (4, .int l4), (5, .int l5)]) (h : KX10_larks_64 r64 l2 l3 l4 l5 S = some res) : W p l e (rmL 8 0 0) s m args below meth c H locs 0 0 (MQ below (QI G res.1 res.2) args s 0 0 (Ab G)) (F0 m 64 ls []) := by
  unfold KX10_larks_64 at h
  have hx := C.1.1
  have hb := C.1.2.1
  refine lv_iload hx hb dX10_larks_64 (lv_at hl 4 rfl) ?_
  refine lv_iload_n hx hb dX10_larks_66 rfl (lv_at hl 1 rfl) ?_
  refine lv_icmp_ge (tgt := 84) hx hb dX10_larks_67 (by decide) (fun c1 => ?_) (fun c1 => ?_)
  · rw [if_pos c1] at h
    refine lv_aload_n hx hb dX10_larks_84 rfl (lv_at hl 0 rfl) ?_
    refine gX10_340 C hd (rfl : kd 142 = 10) dX10_larks_85 ?_
    refine lv_iload hx hb dX10_larks_88 (lv_at hl 3 rfl) ?_
    refine lv_isub hx hb dX10_larks_90 ?_
    refine R_vl h (fun x2 h => ?_)
    refine lv_istore (lv' := [(5, .int x2), (0, .ref (gR G 142)), (2, .int l2), (3, .int l3), (4, .int l4)]) hx hb dX10_larks_91 hl (by decide) rfl (fun ls hl => ?_)
    refine lv_iconst (v := 0) hx hb dX10_larks_93 (by decide) ?_
    refine lv_istore (lv' := [(6, .int 0), (5, .int x2), (0, .ref (gR G 142)), (2, .int l2), (3, .int l3), (4, .int l4)]) hx hb dX10_larks_94 hl (by decide) rfl (fun ls hl => ?_)
    refine lv_aload_n hx hb dX10_larks_96 rfl (lv_at hl 2 rfl) ?_
    refine gX10_39 C hd (rfl : kd 142 = 10) (q := 145) rfl dX10_larks_97 (fun y3 => ?_)
    refine lv_iconst (v := 2) hx hb dX10_larks_100 (by decide) ?_
    refine R_iald C hd y3 h dX10_larks_101 (fun x4 h => ?_)
    refine lv_if_ne (tgt := 109) hx hb dX10_larks_102 (by decide) (fun c5 => ?_) (fun c5 => ?_)
    · rw [if_neg c5] at h
      refine lv_sipush (v := -9999) hx hb dX10_larks_109 (by decide) ?_
      exact sBX10_larks_112 C hr  hd (lv_sub hl [2, 4, 1, 0] rfl) h
    · rw [if_pos c5] at h
      refine lv_iconst (v := 0) hx hb dX10_larks_105 (by decide) ?_
      refine lv_goto (tgt := 112) hx hb dX10_larks_106 (by decide) ?_
      exact sBX10_larks_112 C hr  hd (lv_sub hl [2, 4, 1, 0] rfl) h
  · rw [if_neg c1] at h
    refine lv_aload_n hx hb dX10_larks_70 rfl (lv_at hl 0 rfl) ?_
    obtain ⟨S1, hc, h⟩ := bv_some h
    refine R_cVv C hd (ccX10_lark l G  hc) kX10_480 rfl (by decide) (rfl : kd 142 = 10) hl.1 ⟨by decide, by decide⟩ rfl rfl (Nat.le_of_ble_eq_true rfl) dX10_larks_71 ⟨Nat.zero_le _, Nat.zero_le _⟩ (fun H locs hd => ?_)
    generalize S1 = S at h hd
    refine lv_aload_n hx hb dX10_larks_74 rfl (lv_at hl 0 rfl) ?_
    obtain ⟨S1, hc, h⟩ := bv_some h
    refine R_cVv C hd (ccX10_anHour l G  hc) kX10_389 rfl (by decide) (rfl : kd 142 = 10) hl.1 ⟨by decide, by decide⟩ rfl rfl (Nat.le_of_ble_eq_true rfl) dX10_larks_75 ⟨Nat.zero_le _, Nat.zero_le _⟩ (fun H locs hd => ?_)
    generalize S1 = S at h hd
    refine R_vi h (fun x6 ex6 h => ?_)
    refine lv_iinc (v := x6) (lv' := [(5, .int x6), (0, .ref (gR G 142)), (2, .int l2), (3, .int l3), (4, .int l4)]) hx hb dX10_larks_78 hl (k := 4) rfl (by rw [ex6]; rfl) (by decide) rfl (fun ls hl => ?_)
    refine lv_goto (tgt := 64) hx hb dX10_larks_81 (by decide) ?_
    exact hr64 l2 l3 l4 x6 _ _ _ _ _  hd (lv_sub hl [1, 2, 3, 4, 0] rfl) h
def LX10_larks_64 : Nat → Int32 → Int32 → Int32 → Int32 → St → Option (Int32 × St)
  | 0 => fun _ _ _ _ _ => none
  | n + 1 => fun l2 l3 l4 l5 S => KX10_larks_64 (LX10_larks_64 n) l2 l3 l4 l5 S
theorem sLX10_larks_64 (C : Cx p s m args meth c cX10_larks 9 RX10 G) (hr : meth.sig.returnType = some .int) : ∀ (n : Nat) (l2 : Int32) (l3 : Int32) (l4 : Int32) (l5 : Int32) (S : St) (res : (Int32 × St)) (H : Heap) (locs : List Loc) (ls : Array Slot), Dy G S s H locs → lv_has ls 9 [(0, .ref (gR G 142)), (2, .int l2), (3, .int l3), (4, .int l4), (5, .int l5)] → LX10_larks_64 n l2 l3 l4 l5 S = some res → W p l e (rmL 8 0 0) s m args below meth c H locs 0 0 (MQ below (QI G res.1 res.2) args s 0 0 (Ab G)) (F0 m 64 ls []) := by
  intro n
  induction n with
  | zero => intro l2 l3 l4 l5 S res H locs ls  hd hl h; cases h
  | succ n ih =>
    intro l2 l3 l4 l5 S res H locs ls  hd hl h
    exact sKX10_larks_64 C hr ih  hd hl h
def fX10_larks (a1 : Int32) (a2 : Int32) (a3 : Int32) (S : St) : Option (Int32 × St) :=
  pf S 142 3 0 fun S => bd (fX10_isIn (a3.toInt64) 0 2 S) fun x1 S => (if x1 = 0 then bd (fX10_fail 1 S) fun x8 S => ri x8 S else bd (fX10_isIn (a2.toInt64) 0 60 S) fun x3 S => (if x3 = 0 then bd (fX10_fail 2 S) fun x7 S => ri x7 S else bv (fX10_pack 169 0 S) fun S => pf S 142 56 a1 fun S => vl (S 142 35) fun x6 => (LX10_larks_64 FU a2 a3 x6 0 S)))
set_option maxHeartbeats 4000000 in
set_option maxRecDepth 20000 in
theorem sfX10_larks (C : Cx p s m args meth c cX10_larks 9 RX10 G) (hr : meth.sig.returnType = some .int) {a1 : Int32} {a2 : Int32} {a3 : Int32} {S : St} {res : (Int32 × St)} {H : Heap} {locs : List Loc} {ls : Array Slot}  (hd : Dy G S s H locs) (hl : lv_has ls 9 [(0, .ref (gR G 142)), (1, .int a1), (2, .int a2), (3, .int a3)]) (h : fX10_larks a1 a2 a3 S = some res) : W p l e (rmL 8 0 0) s m args below meth c H locs 0 0 (MQ below (QI G res.1 res.2) args s 0 0 (Ab G)) (F0 m 0 ls []) := by
  unfold fX10_larks at h
  have hx := C.1.1
  have hb := C.1.2.1
  refine lv_aload_n hx hb dX10_larks_0 rfl (lv_at hl 0 rfl) ?_
  refine lv_iconst (v := 0) hx hb dX10_larks_1 (by decide) ?_
  refine pX10_167 C hd (rfl : kd 142 = 10) h dX10_larks_2 (fun S H locs hd h => ?_)
  refine lv_iload_n hx hb dX10_larks_5 rfl (lv_at hl 3 rfl) ?_
  refine lv_i2l hx hb dX10_larks_6 rfl ?_
  refine lv_lconst (v := 0) hx hb dX10_larks_7 rfl ?_
  refine lv_ldc2 hx hb C.1.2.2.2.1 (C.1.2.2.2.2 _ kcX10_458) dX10_larks_8 ?_
  obtain ⟨x1, S1, hc, h⟩ := bd_some h
  refine R_cSi C hd (ccX10_isIn l G  hc) kX10_170  hl.1 ⟨by decide, by decide⟩ rfl rfl (Nat.le_of_ble_eq_true rfl) dX10_larks_11 ⟨Nat.zero_le _, Nat.zero_le _⟩ (fun H locs hd => ?_)
  generalize S1 = S at h hd
  refine lv_if_ne (tgt := 23) hx hb dX10_larks_14 (by decide) (fun c2 => ?_) (fun c2 => ?_)
  · rw [if_neg c2] at h
    refine lv_iload_n hx hb dX10_larks_23 rfl (lv_at hl 2 rfl) ?_
    refine lv_i2l hx hb dX10_larks_24 rfl ?_
    refine lv_lconst (v := 0) hx hb dX10_larks_25 rfl ?_
    refine lv_ldc2 hx hb C.1.2.2.2.1 (C.1.2.2.2.2 _ kcX10_433) dX10_larks_26 ?_
    obtain ⟨x3, S1, hc, h⟩ := bd_some h
    refine R_cSi C hd (ccX10_isIn l G  hc) kX10_170  hl.1 ⟨by decide, by decide⟩ rfl rfl (Nat.le_of_ble_eq_true rfl) dX10_larks_29 ⟨Nat.zero_le _, Nat.zero_le _⟩ (fun H locs hd => ?_)
    generalize S1 = S at h hd
    refine lv_if_ne (tgt := 41) hx hb dX10_larks_32 (by decide) (fun c4 => ?_) (fun c4 => ?_)
    · rw [if_neg c4] at h
      refine lv_aload_n hx hb dX10_larks_41 rfl (lv_at hl 0 rfl) ?_
      refine lv_aload_n hx hb dX10_larks_42 rfl (lv_at hl 0 rfl) ?_
      refine gX10_116 C hd (rfl : kd 142 = 10) (q := 169) rfl dX10_larks_43 (fun y5 => ?_)
      refine lv_iconst (v := 0) hx hb dX10_larks_46 (by decide) ?_
      obtain ⟨S1, hc, h⟩ := bv_some h
      refine R_cVv C hd (ccX10_pack l G y5 hc) kX10_406 rfl (by decide) (rfl : kd 142 = 10) hl.1 ⟨by decide, by decide⟩ rfl rfl (Nat.le_of_ble_eq_true rfl) dX10_larks_47 ⟨Nat.zero_le _, Nat.zero_le _⟩ (fun H locs hd => ?_)
      generalize S1 = S at h hd
      refine lv_aload_n hx hb dX10_larks_50 rfl (lv_at hl 0 rfl) ?_
      refine lv_iload_n hx hb dX10_larks_51 rfl (lv_at hl 1 rfl) ?_
      refine pX10_473 C hd (rfl : kd 142 = 10) h dX10_larks_52 (fun S H locs hd h => ?_)
      refine lv_aload_n hx hb dX10_larks_55 rfl (lv_at hl 0 rfl) ?_
      refine gX10_340 C hd (rfl : kd 142 = 10) dX10_larks_56 ?_
      refine R_vl h (fun x6 h => ?_)
      refine lv_istore (lv' := [(4, .int x6), (0, .ref (gR G 142)), (1, .int a1), (2, .int a2), (3, .int a3)]) hx hb dX10_larks_59 hl (by decide) rfl (fun ls hl => ?_)
      refine lv_iconst (v := 0) hx hb dX10_larks_61 (by decide) ?_
      refine lv_istore (lv' := [(5, .int 0), (4, .int x6), (0, .ref (gR G 142)), (1, .int a1), (2, .int a2), (3, .int a3)]) hx hb dX10_larks_62 hl (by decide) rfl (fun ls hl => ?_)
      exact sLX10_larks_64 C hr _ a2 a3 x6 0 _ _ _ _ _  hd (lv_sub hl [2, 4, 5, 1, 0] rfl) h
    · rw [if_pos c4] at h
      refine lv_aload_n hx hb dX10_larks_35 rfl (lv_at hl 0 rfl) ?_
      refine lv_iconst (v := 2) hx hb dX10_larks_36 (by decide) ?_
      obtain ⟨x7, S1, hc, h⟩ := bd_some h
      refine R_cVi C hd (ccX10_fail l G  hc) kX10_325 rfl (by decide) (rfl : kd 142 = 10) hl.1 ⟨by decide, by decide⟩ rfl rfl (Nat.le_of_ble_eq_true rfl) dX10_larks_37 ⟨Nat.zero_le _, Nat.zero_le _⟩ (fun H locs hd => ?_)
      generalize S1 = S at h hd
      exact R_iret C hr hd h dX10_larks_40
  · rw [if_pos c2] at h
    refine lv_aload_n hx hb dX10_larks_17 rfl (lv_at hl 0 rfl) ?_
    refine lv_iconst (v := 1) hx hb dX10_larks_18 (by decide) ?_
    obtain ⟨x8, S1, hc, h⟩ := bd_some h
    refine R_cVi C hd (ccX10_fail l G  hc) kX10_325 rfl (by decide) (rfl : kd 142 = 10) hl.1 ⟨by decide, by decide⟩ rfl rfl (Nat.le_of_ble_eq_true rfl) dX10_larks_19 ⟨Nat.zero_le _, Nat.zero_le _⟩ (fun H locs hd => ?_)
    generalize S1 = S at h hd
    exact R_iret C hr hd h dX10_larks_22
set_option maxRecDepth 20000 in
theorem ccX10_larks (l : Launch) (G : Gt) {a1 : Int32} {a2 : Int32} {a3 : Int32} {S : St} {res : (Int32 × St)}  (h : fX10_larks a1 a2 a3 S = some res) : Met l yX10_larks (wm yX10_larks cX10_larks 9 (some .int)) (rmL 8 0 0) (PcW G S [.ref (gR G 142), .int a1, .int a2, .int a3]) (QI G res.1 res.2) 0 0 (Ab G) := by
  refine Met.ofW (cc := cX10_larks) (maxL := 9) (ret := (some .int)) (by decide) rfl ?_
  intro p e s m args below meth c s₁ B hml hv
  obtain ⟨rfl, hK, hP⟩ := hv
  have C : Cx p s m _ meth c cX10_larks 9 RX10 G := ⟨⟨B.exec, B.bytes, hml, findClass_of_methodNamed B.named, fun w hw => atoms_spec (ws := wm yX10_larks cX10_larks 9 (some .int)) B.pre w (List.mem_cons_of_mem _ hw)⟩, B.notSynchronized, hK⟩
  have hl := lv_entry ([.ref (gR G 142), .int a1, .int a2, .int a3]) (n := 9) (Nat.le_of_ble_eq_true rfl)
  rw [lg_entry_eq]
  generalize (lg_sl ([.ref (gR G 142), .int a1, .int a2, .int a3]) ++ List.replicate (9 - (lg_sl ([.ref (gR G 142), .int a1, .int a2, .int a3])).length) Slot.unset).toArray = ls at hl ⊢
  exact sfX10_larks C B.returns  ⟨hP, va_S.rf⟩ hl h
def KX10_copyTo_2 (r2 : Nat → Nat → Int32 → St → Option St) (l0 : Nat) (l1 : Nat) (l2 : Int32) (S : St) : Option St :=
  (if (nI (ln l0)) ≤ l2 then some S else rd S l1 l2 fun x2 => wr S l0 l2 x2 fun S => vl (l2 + 1) fun x3 => (r2 l0 l1 x3 S))
set_option maxHeartbeats 4000000 in
set_option maxRecDepth 20000 in
theorem sKX10_copyTo_2 (C : Cx p s m args meth c cX10_copyTo 3 RX10 G) (hr : meth.sig.returnType = none) {r2 : Nat → Nat → Int32 → St → Option St} (hr2 : ∀ (l0 : Nat) (l1 : Nat) (l2 : Int32) (S : St) (res : St) (H : Heap) (locs : List Loc) (ls : Array Slot), kd l0 = 20 → kd l1 = 20 → Dy G S s H locs → lv_has ls 3 [(0, .ref (gR G l0)), (1, .ref (gR G l1)), (2, .int l2)] → r2 l0 l1 l2 S = some res → W p l e (rmL 3 0 0) s m args below meth c H locs 0 0 (MQ below (QV G res) args s 0 0 (Ab G)) (F0 m 2 ls [])) {l0 : Nat} {l1 : Nat} {l2 : Int32} {S : St} {res : St} {H : Heap} {locs : List Loc} {ls : Array Slot} (kl0 : kd l0 = 20) (kl1 : kd l1 = 20) (hd : Dy G S s H locs) (hl : lv_has ls 3 [(0, .ref (gR G l0)), (1, .ref (gR G l1)), (2, .int l2)]) (h : KX10_copyTo_2 r2 l0 l1 l2 S = some res) : W p l e (rmL 3 0 0) s m args below meth c H locs 0 0 (MQ below (QV G res) args s 0 0 (Ab G)) (F0 m 2 ls []) := by
  unfold KX10_copyTo_2 at h
  have hx := C.1.1
  have hb := C.1.2.1
  refine lv_iload_n hx hb dX10_copyTo_2 rfl (lv_at hl 2 rfl) ?_
  refine lv_aload_n hx hb dX10_copyTo_3 rfl (lv_at hl 0 rfl) ?_
  refine R_alen C hd kl0 (v := nI (ln l0)) rfl dX10_copyTo_4 ?_
  refine lv_icmp_ge (tgt := 20) hx hb dX10_copyTo_5 (by decide) (fun c1 => ?_) (fun c1 => ?_)
  · rw [if_pos c1] at h
    exact R_vret C hr hd h dX10_copyTo_20
  · rw [if_neg c1] at h
    refine lv_aload_n hx hb dX10_copyTo_8 rfl (lv_at hl 0 rfl) ?_
    refine lv_iload_n hx hb dX10_copyTo_9 rfl (lv_at hl 2 rfl) ?_
    refine lv_aload_n hx hb dX10_copyTo_10 rfl (lv_at hl 1 rfl) ?_
    refine lv_iload_n hx hb dX10_copyTo_11 rfl (lv_at hl 2 rfl) ?_
    refine R_iald C hd kl1 h dX10_copyTo_12 (fun x2 h => ?_)
    refine R_iast C hd kl0 h dX10_copyTo_13 (fun S H locs hd h => ?_)
    refine R_vi h (fun x3 ex3 h => ?_)
    refine lv_iinc (v := x3) (lv' := [(2, .int x3), (0, .ref (gR G l0)), (1, .ref (gR G l1))]) hx hb dX10_copyTo_14 hl (k := 2) rfl (by rw [ex3]; rfl) (by decide) rfl (fun ls hl => ?_)
    refine lv_goto (tgt := 2) hx hb dX10_copyTo_17 (by decide) ?_
    exact hr2 l0 l1 x3 _ _ _ _ _ kl0 kl1 hd (lv_sub hl [1, 2, 0] rfl) h
def LX10_copyTo_2 : Nat → Nat → Nat → Int32 → St → Option St
  | 0 => fun _ _ _ _ => none
  | n + 1 => fun l0 l1 l2 S => KX10_copyTo_2 (LX10_copyTo_2 n) l0 l1 l2 S
theorem sLX10_copyTo_2 (C : Cx p s m args meth c cX10_copyTo 3 RX10 G) (hr : meth.sig.returnType = none) : ∀ (n : Nat) (l0 : Nat) (l1 : Nat) (l2 : Int32) (S : St) (res : St) (H : Heap) (locs : List Loc) (ls : Array Slot), kd l0 = 20 → kd l1 = 20 → Dy G S s H locs → lv_has ls 3 [(0, .ref (gR G l0)), (1, .ref (gR G l1)), (2, .int l2)] → LX10_copyTo_2 n l0 l1 l2 S = some res → W p l e (rmL 3 0 0) s m args below meth c H locs 0 0 (MQ below (QV G res) args s 0 0 (Ab G)) (F0 m 2 ls []) := by
  intro n
  induction n with
  | zero => intro l0 l1 l2 S res H locs ls kl0 kl1 hd hl h; cases h
  | succ n ih =>
    intro l0 l1 l2 S res H locs ls kl0 kl1 hd hl h
    exact sKX10_copyTo_2 C hr ih kl0 kl1 hd hl h
def fX10_copyTo (a0 : Nat) (a1 : Nat) (S : St) : Option St :=
  (LX10_copyTo_2 FU a0 a1 0 S)
set_option maxHeartbeats 4000000 in
set_option maxRecDepth 20000 in
theorem sfX10_copyTo (C : Cx p s m args meth c cX10_copyTo 3 RX10 G) (hr : meth.sig.returnType = none) {a0 : Nat} {a1 : Nat} {S : St} {res : St} {H : Heap} {locs : List Loc} {ls : Array Slot} (k0 : kd a0 = 20) (k1 : kd a1 = 20) (hd : Dy G S s H locs) (hl : lv_has ls 3 [(0, .ref (gR G a0)), (1, .ref (gR G a1))]) (h : fX10_copyTo a0 a1 S = some res) : W p l e (rmL 3 0 0) s m args below meth c H locs 0 0 (MQ below (QV G res) args s 0 0 (Ab G)) (F0 m 0 ls []) := by
  unfold fX10_copyTo at h
  have hx := C.1.1
  have hb := C.1.2.1
  refine lv_iconst (v := 0) hx hb dX10_copyTo_0 (by decide) ?_
  refine lv_istore_n (lv' := [(2, .int 0), (0, .ref (gR G a0)), (1, .ref (gR G a1))]) hx hb dX10_copyTo_1 rfl hl (by decide) rfl (fun ls hl => ?_)
  exact sLX10_copyTo_2 C hr _ a0 a1 0 _ _ _ _ _ k0 k1 hd (lv_sub hl [1, 2, 0] rfl) h
set_option maxRecDepth 20000 in
theorem ccX10_copyTo (l : Launch) (G : Gt) {a0 : Nat} {a1 : Nat} {S : St} {res : St} (k0 : kd a0 = 20) (k1 : kd a1 = 20) (h : fX10_copyTo a0 a1 S = some res) : Met l yX10_copyTo (wm yX10_copyTo cX10_copyTo 3 (none)) (rmL 3 0 0) (PcW G S [.ref (gR G a0), .ref (gR G a1)]) (QV G res) 0 0 (Ab G) := by
  refine Met.ofW (cc := cX10_copyTo) (maxL := 3) (ret := none) (by decide) rfl ?_
  intro p e s m args below meth c s₁ B hml hv
  obtain ⟨rfl, hK, hP⟩ := hv
  have C : Cx p s m _ meth c cX10_copyTo 3 RX10 G := ⟨⟨B.exec, B.bytes, hml, findClass_of_methodNamed B.named, fun w hw => atoms_spec (ws := wm yX10_copyTo cX10_copyTo 3 (none)) B.pre w (List.mem_cons_of_mem _ hw)⟩, B.notSynchronized, hK⟩
  have hl := lv_entry ([.ref (gR G a0), .ref (gR G a1)]) (n := 3) (Nat.le_of_ble_eq_true rfl)
  rw [lg_entry_eq]
  generalize (lg_sl ([.ref (gR G a0), .ref (gR G a1)]) ++ List.replicate (3 - (lg_sl ([.ref (gR G a0), .ref (gR G a1)])).length) Slot.unset).toArray = ls at hl ⊢
  exact sfX10_copyTo C B.returns k0 k1 ⟨hP, va_S.rf⟩ hl h
def fX10_image  (S : St) : Option St :=
  pf S 142 3 0 fun S => pz S 142 57 1 fun S => pf S 142 58 (S 142 36) fun S => pf S 142 59 (S 142 37) fun S => bv (fX10_pack 180 0 S) fun S => bv (fX10_copyTo 181 163 S) fun S => bv (fX10_copyTo 182 173 S) fun S => bv (fX10_copyTo 183 174 S) fun S => bv (fX10_copyTo 184 175 S) fun S => bv (fX10_copyTo 185 156 S) fun S => some S
set_option maxHeartbeats 4000000 in
set_option maxRecDepth 20000 in
theorem sfX10_image (C : Cx p s m args meth c cX10_image 1 RX10 G) (hr : meth.sig.returnType = none)  {S : St} {res : St} {H : Heap} {locs : List Loc} {ls : Array Slot}  (hd : Dy G S s H locs) (hl : lv_has ls 1 [(0, .ref (gR G 142))]) (h : fX10_image  S = some res) : W p l e (rmL 4 0 0) s m args below meth c H locs 0 0 (MQ below (QV G res) args s 0 0 (Ab G)) (F0 m 0 ls []) := by
  unfold fX10_image at h
  have hx := C.1.1
  have hb := C.1.2.1
  refine lv_aload_n hx hb dX10_image_0 rfl (lv_at hl 0 rfl) ?_
  refine lv_iconst (v := 0) hx hb dX10_image_1 (by decide) ?_
  refine pX10_167 C hd (rfl : kd 142 = 10) h dX10_image_2 (fun S H locs hd h => ?_)
  refine lv_aload_n hx hb dX10_image_5 rfl (lv_at hl 0 rfl) ?_
  refine lv_iconst (v := 1) hx hb dX10_image_6 (by decide) ?_
  refine pX10_352 C hd (rfl : kd 142 = 10) h dX10_image_7 (fun S H locs hd h => ?_)
  refine lv_aload_n hx hb dX10_image_10 rfl (lv_at hl 0 rfl) ?_
  refine lv_aload_n hx hb dX10_image_11 rfl (lv_at hl 0 rfl) ?_
  refine gX10_346 C hd (rfl : kd 142 = 10) dX10_image_12 ?_
  refine pX10_483 C hd (rfl : kd 142 = 10) h dX10_image_15 (fun S H locs hd h => ?_)
  refine lv_aload_n hx hb dX10_image_18 rfl (lv_at hl 0 rfl) ?_
  refine lv_aload_n hx hb dX10_image_19 rfl (lv_at hl 0 rfl) ?_
  refine gX10_349 C hd (rfl : kd 142 = 10) dX10_image_20 ?_
  refine pX10_486 C hd (rfl : kd 142 = 10) h dX10_image_23 (fun S H locs hd h => ?_)
  refine lv_aload_n hx hb dX10_image_26 rfl (lv_at hl 0 rfl) ?_
  refine lv_aload_n hx hb dX10_image_27 rfl (lv_at hl 0 rfl) ?_
  refine gX10_149 C hd (rfl : kd 142 = 10) (q := 180) rfl dX10_image_28 (fun y1 => ?_)
  refine lv_iconst (v := 0) hx hb dX10_image_31 (by decide) ?_
  obtain ⟨S1, hc, h⟩ := bv_some h
  refine R_cVv C hd (ccX10_pack l G y1 hc) kX10_406 rfl (by decide) (rfl : kd 142 = 10) hl.1 ⟨by decide, by decide⟩ rfl rfl (Nat.le_of_ble_eq_true rfl) dX10_image_32 ⟨Nat.zero_le _, Nat.zero_le _⟩ (fun H locs hd => ?_)
  generalize S1 = S at h hd
  refine lv_aload_n hx hb dX10_image_35 rfl (lv_at hl 0 rfl) ?_
  refine gX10_152 C hd (rfl : kd 142 = 10) (q := 181) rfl dX10_image_36 (fun y2 => ?_)
  refine lv_aload_n hx hb dX10_image_39 rfl (lv_at hl 0 rfl) ?_
  refine gX10_95 C hd (rfl : kd 142 = 10) (q := 163) rfl dX10_image_40 (fun y3 => ?_)
  obtain ⟨S1, hc, h⟩ := bv_some h
  refine R_cSv C hd (ccX10_copyTo l G y2 y3 hc) kX10_489  hl.1 ⟨by decide, by decide⟩ rfl rfl (Nat.le_of_ble_eq_true rfl) dX10_image_43 ⟨Nat.zero_le _, Nat.zero_le _⟩ (fun H locs hd => ?_)
  generalize S1 = S at h hd
  refine lv_aload_n hx hb dX10_image_46 rfl (lv_at hl 0 rfl) ?_
  refine gX10_155 C hd (rfl : kd 142 = 10) (q := 182) rfl dX10_image_47 (fun y4 => ?_)
  refine lv_aload_n hx hb dX10_image_50 rfl (lv_at hl 0 rfl) ?_
  refine gX10_128 C hd (rfl : kd 142 = 10) (q := 173) rfl dX10_image_51 (fun y5 => ?_)
  obtain ⟨S1, hc, h⟩ := bv_some h
  refine R_cSv C hd (ccX10_copyTo l G y4 y5 hc) kX10_489  hl.1 ⟨by decide, by decide⟩ rfl rfl (Nat.le_of_ble_eq_true rfl) dX10_image_54 ⟨Nat.zero_le _, Nat.zero_le _⟩ (fun H locs hd => ?_)
  generalize S1 = S at h hd
  refine lv_aload_n hx hb dX10_image_57 rfl (lv_at hl 0 rfl) ?_
  refine gX10_158 C hd (rfl : kd 142 = 10) (q := 183) rfl dX10_image_58 (fun y6 => ?_)
  refine lv_aload_n hx hb dX10_image_61 rfl (lv_at hl 0 rfl) ?_
  refine gX10_131 C hd (rfl : kd 142 = 10) (q := 174) rfl dX10_image_62 (fun y7 => ?_)
  obtain ⟨S1, hc, h⟩ := bv_some h
  refine R_cSv C hd (ccX10_copyTo l G y6 y7 hc) kX10_489  hl.1 ⟨by decide, by decide⟩ rfl rfl (Nat.le_of_ble_eq_true rfl) dX10_image_65 ⟨Nat.zero_le _, Nat.zero_le _⟩ (fun H locs hd => ?_)
  generalize S1 = S at h hd
  refine lv_aload_n hx hb dX10_image_68 rfl (lv_at hl 0 rfl) ?_
  refine gX10_161 C hd (rfl : kd 142 = 10) (q := 184) rfl dX10_image_69 (fun y8 => ?_)
  refine lv_aload_n hx hb dX10_image_72 rfl (lv_at hl 0 rfl) ?_
  refine gX10_134 C hd (rfl : kd 142 = 10) (q := 175) rfl dX10_image_73 (fun y9 => ?_)
  obtain ⟨S1, hc, h⟩ := bv_some h
  refine R_cSv C hd (ccX10_copyTo l G y8 y9 hc) kX10_489  hl.1 ⟨by decide, by decide⟩ rfl rfl (Nat.le_of_ble_eq_true rfl) dX10_image_76 ⟨Nat.zero_le _, Nat.zero_le _⟩ (fun H locs hd => ?_)
  generalize S1 = S at h hd
  refine lv_aload_n hx hb dX10_image_79 rfl (lv_at hl 0 rfl) ?_
  refine gX10_164 C hd (rfl : kd 142 = 10) (q := 185) rfl dX10_image_80 (fun y10 => ?_)
  refine lv_aload_n hx hb dX10_image_83 rfl (lv_at hl 0 rfl) ?_
  refine gX10_71 C hd (rfl : kd 142 = 10) (q := 156) rfl dX10_image_84 (fun y11 => ?_)
  obtain ⟨S1, hc, h⟩ := bv_some h
  refine R_cSv C hd (ccX10_copyTo l G y10 y11 hc) kX10_489  hl.1 ⟨by decide, by decide⟩ rfl rfl (Nat.le_of_ble_eq_true rfl) dX10_image_87 ⟨Nat.zero_le _, Nat.zero_le _⟩ (fun H locs hd => ?_)
  generalize S1 = S at h hd
  exact R_vret C hr hd h dX10_image_90
set_option maxRecDepth 20000 in
theorem ccX10_image (l : Launch) (G : Gt)  {S : St} {res : St}  (h : fX10_image  S = some res) : Met l yX10_image (wm yX10_image cX10_image 1 (none)) (rmL 4 0 0) (PcW G S [.ref (gR G 142)]) (QV G res) 0 0 (Ab G) := by
  refine Met.ofW (cc := cX10_image) (maxL := 1) (ret := none) (by decide) rfl ?_
  intro p e s m args below meth c s₁ B hml hv
  obtain ⟨rfl, hK, hP⟩ := hv
  have C : Cx p s m _ meth c cX10_image 1 RX10 G := ⟨⟨B.exec, B.bytes, hml, findClass_of_methodNamed B.named, fun w hw => atoms_spec (ws := wm yX10_image cX10_image 1 (none)) B.pre w (List.mem_cons_of_mem _ hw)⟩, B.notSynchronized, hK⟩
  have hl := lv_entry ([.ref (gR G 142)]) (n := 1) (Nat.le_of_ble_eq_true rfl)
  rw [lg_entry_eq]
  generalize (lg_sl ([.ref (gR G 142)]) ++ List.replicate (1 - (lg_sl ([.ref (gR G 142)])).length) Slot.unset).toArray = ls at hl ⊢
  exact sfX10_image C B.returns  ⟨hP, va_S.rf⟩ hl h
def fX10_restore  (S : St) : Option (Int32 × St) :=
  pf S 142 3 0 fun S => (if (S 142 57) = 0 then rz 0 S else pf S 142 36 (S 142 58) fun S => pf S 142 37 (S 142 59) fun S => bv (fX10_unpack 180 0 S) fun S => bv (fX10_copyTo 163 181 S) fun S => bv (fX10_copyTo 173 182 S) fun S => bv (fX10_copyTo 174 183 S) fun S => bv (fX10_copyTo 175 184 S) fun S => bv (fX10_copyTo 156 185 S) fun S => rz 1 S)
set_option maxHeartbeats 4000000 in
set_option maxRecDepth 20000 in
theorem sfX10_restore (C : Cx p s m args meth c cX10_restore 1 RX10 G) (hr : meth.sig.returnType = some .boolean)  {S : St} {res : (Int32 × St)} {H : Heap} {locs : List Loc} {ls : Array Slot}  (hd : Dy G S s H locs) (hl : lv_has ls 1 [(0, .ref (gR G 142))]) (h : fX10_restore  S = some res) : W p l e (rmL 4 0 0) s m args below meth c H locs 0 0 (MQ below (QI G res.1 res.2) args s 0 0 (Ab G)) (F0 m 0 ls []) := by
  unfold fX10_restore at h
  have hx := C.1.1
  have hb := C.1.2.1
  refine lv_aload_n hx hb dX10_restore_0 rfl (lv_at hl 0 rfl) ?_
  refine lv_iconst (v := 0) hx hb dX10_restore_1 (by decide) ?_
  refine pX10_167 C hd (rfl : kd 142 = 10) h dX10_restore_2 (fun S H locs hd h => ?_)
  refine lv_aload_n hx hb dX10_restore_5 rfl (lv_at hl 0 rfl) ?_
  refine gX10_352 C hd (rfl : kd 142 = 10) dX10_restore_6 ?_
  refine lv_if_ne (tgt := 14) hx hb dX10_restore_9 (by decide) (fun c1 => ?_) (fun c1 => ?_)
  · rw [if_neg c1] at h
    refine lv_aload_n hx hb dX10_restore_14 rfl (lv_at hl 0 rfl) ?_
    refine lv_aload_n hx hb dX10_restore_15 rfl (lv_at hl 0 rfl) ?_
    refine gX10_483 C hd (rfl : kd 142 = 10) dX10_restore_16 ?_
    refine pX10_346 C hd (rfl : kd 142 = 10) h dX10_restore_19 (fun S H locs hd h => ?_)
    refine lv_aload_n hx hb dX10_restore_22 rfl (lv_at hl 0 rfl) ?_
    refine lv_aload_n hx hb dX10_restore_23 rfl (lv_at hl 0 rfl) ?_
    refine gX10_486 C hd (rfl : kd 142 = 10) dX10_restore_24 ?_
    refine pX10_349 C hd (rfl : kd 142 = 10) h dX10_restore_27 (fun S H locs hd h => ?_)
    refine lv_aload_n hx hb dX10_restore_30 rfl (lv_at hl 0 rfl) ?_
    refine lv_aload_n hx hb dX10_restore_31 rfl (lv_at hl 0 rfl) ?_
    refine gX10_149 C hd (rfl : kd 142 = 10) (q := 180) rfl dX10_restore_32 (fun y2 => ?_)
    refine lv_iconst (v := 0) hx hb dX10_restore_35 (by decide) ?_
    obtain ⟨S1, hc, h⟩ := bv_some h
    refine R_cVv C hd (ccX10_unpack l G y2 hc) kX10_430 rfl (by decide) (rfl : kd 142 = 10) hl.1 ⟨by decide, by decide⟩ rfl rfl (Nat.le_of_ble_eq_true rfl) dX10_restore_36 ⟨Nat.zero_le _, Nat.zero_le _⟩ (fun H locs hd => ?_)
    generalize S1 = S at h hd
    refine lv_aload_n hx hb dX10_restore_39 rfl (lv_at hl 0 rfl) ?_
    refine gX10_95 C hd (rfl : kd 142 = 10) (q := 163) rfl dX10_restore_40 (fun y3 => ?_)
    refine lv_aload_n hx hb dX10_restore_43 rfl (lv_at hl 0 rfl) ?_
    refine gX10_152 C hd (rfl : kd 142 = 10) (q := 181) rfl dX10_restore_44 (fun y4 => ?_)
    obtain ⟨S1, hc, h⟩ := bv_some h
    refine R_cSv C hd (ccX10_copyTo l G y3 y4 hc) kX10_489  hl.1 ⟨by decide, by decide⟩ rfl rfl (Nat.le_of_ble_eq_true rfl) dX10_restore_47 ⟨Nat.zero_le _, Nat.zero_le _⟩ (fun H locs hd => ?_)
    generalize S1 = S at h hd
    refine lv_aload_n hx hb dX10_restore_50 rfl (lv_at hl 0 rfl) ?_
    refine gX10_128 C hd (rfl : kd 142 = 10) (q := 173) rfl dX10_restore_51 (fun y5 => ?_)
    refine lv_aload_n hx hb dX10_restore_54 rfl (lv_at hl 0 rfl) ?_
    refine gX10_155 C hd (rfl : kd 142 = 10) (q := 182) rfl dX10_restore_55 (fun y6 => ?_)
    obtain ⟨S1, hc, h⟩ := bv_some h
    refine R_cSv C hd (ccX10_copyTo l G y5 y6 hc) kX10_489  hl.1 ⟨by decide, by decide⟩ rfl rfl (Nat.le_of_ble_eq_true rfl) dX10_restore_58 ⟨Nat.zero_le _, Nat.zero_le _⟩ (fun H locs hd => ?_)
    generalize S1 = S at h hd
    refine lv_aload_n hx hb dX10_restore_61 rfl (lv_at hl 0 rfl) ?_
    refine gX10_131 C hd (rfl : kd 142 = 10) (q := 174) rfl dX10_restore_62 (fun y7 => ?_)
    refine lv_aload_n hx hb dX10_restore_65 rfl (lv_at hl 0 rfl) ?_
    refine gX10_158 C hd (rfl : kd 142 = 10) (q := 183) rfl dX10_restore_66 (fun y8 => ?_)
    obtain ⟨S1, hc, h⟩ := bv_some h
    refine R_cSv C hd (ccX10_copyTo l G y7 y8 hc) kX10_489  hl.1 ⟨by decide, by decide⟩ rfl rfl (Nat.le_of_ble_eq_true rfl) dX10_restore_69 ⟨Nat.zero_le _, Nat.zero_le _⟩ (fun H locs hd => ?_)
    generalize S1 = S at h hd
    refine lv_aload_n hx hb dX10_restore_72 rfl (lv_at hl 0 rfl) ?_
    refine gX10_134 C hd (rfl : kd 142 = 10) (q := 175) rfl dX10_restore_73 (fun y9 => ?_)
    refine lv_aload_n hx hb dX10_restore_76 rfl (lv_at hl 0 rfl) ?_
    refine gX10_161 C hd (rfl : kd 142 = 10) (q := 184) rfl dX10_restore_77 (fun y10 => ?_)
    obtain ⟨S1, hc, h⟩ := bv_some h
    refine R_cSv C hd (ccX10_copyTo l G y9 y10 hc) kX10_489  hl.1 ⟨by decide, by decide⟩ rfl rfl (Nat.le_of_ble_eq_true rfl) dX10_restore_80 ⟨Nat.zero_le _, Nat.zero_le _⟩ (fun H locs hd => ?_)
    generalize S1 = S at h hd
    refine lv_aload_n hx hb dX10_restore_83 rfl (lv_at hl 0 rfl) ?_
    refine gX10_71 C hd (rfl : kd 142 = 10) (q := 156) rfl dX10_restore_84 (fun y11 => ?_)
    refine lv_aload_n hx hb dX10_restore_87 rfl (lv_at hl 0 rfl) ?_
    refine gX10_164 C hd (rfl : kd 142 = 10) (q := 185) rfl dX10_restore_88 (fun y12 => ?_)
    obtain ⟨S1, hc, h⟩ := bv_some h
    refine R_cSv C hd (ccX10_copyTo l G y11 y12 hc) kX10_489  hl.1 ⟨by decide, by decide⟩ rfl rfl (Nat.le_of_ble_eq_true rfl) dX10_restore_91 ⟨Nat.zero_le _, Nat.zero_le _⟩ (fun H locs hd => ?_)
    generalize S1 = S at h hd
    refine lv_iconst (v := 1) hx hb dX10_restore_94 (by decide) ?_
    exact R_zret C hr hd h dX10_restore_95
  · rw [if_pos c1] at h
    refine lv_iconst (v := 0) hx hb dX10_restore_12 (by decide) ?_
    exact R_zret C hr hd h dX10_restore_13
set_option maxRecDepth 20000 in
theorem ccX10_restore (l : Launch) (G : Gt)  {S : St} {res : (Int32 × St)}  (h : fX10_restore  S = some res) : Met l yX10_restore (wm yX10_restore cX10_restore 1 (some .boolean)) (rmL 4 0 0) (PcW G S [.ref (gR G 142)]) (QI G res.1 res.2) 0 0 (Ab G) := by
  refine Met.ofW (cc := cX10_restore) (maxL := 1) (ret := (some .boolean)) (by decide) rfl ?_
  intro p e s m args below meth c s₁ B hml hv
  obtain ⟨rfl, hK, hP⟩ := hv
  have C : Cx p s m _ meth c cX10_restore 1 RX10 G := ⟨⟨B.exec, B.bytes, hml, findClass_of_methodNamed B.named, fun w hw => atoms_spec (ws := wm yX10_restore cX10_restore 1 (some .boolean)) B.pre w (List.mem_cons_of_mem _ hw)⟩, B.notSynchronized, hK⟩
  have hl := lv_entry ([.ref (gR G 142)]) (n := 1) (Nat.le_of_ble_eq_true rfl)
  rw [lg_entry_eq]
  generalize (lg_sl ([.ref (gR G 142)]) ++ List.replicate (1 - (lg_sl ([.ref (gR G 142)])).length) Slot.unset).toArray = ls at hl ⊢
  exact sfX10_restore C B.returns  ⟨hP, va_S.rf⟩ hl h
end T35
