section T25
variable {p : Program} {l : Launch} {e : Env} {s : State} {m : MethodId} {args : Array Value} {below : List Frame} {meth : Method} {c : Code} {G : Gt}
def BX6_singerLine_102 (l1 : Int32) (l2 : Int32) (S : St) : Option St :=
  bv (fX6_passEnd  S) fun S => (if (S 32 3) = 0 then gm S 32 2 8 fun q2 => wr S (sr q2 8) l1 l2 fun S => gm S 32 2 8 fun q4 => gm S 32 2 8 fun q6 => rd S (sr q6 9) (l1 * 6) fun x8 => wr S (sr q4 10) l1 ((1 : Int32) <<< (x8 &&& 31)) fun S => gm S 32 2 8 fun q9 => pf S q9 2 ((S q9 2) + 1) fun S => some S else some S)
set_option maxHeartbeats 4000000 in
set_option maxRecDepth 20000 in
theorem sBX6_singerLine_102 (C : Cx p s m args meth c cX6_singerLine 4 RX6 G) (hr : meth.sig.returnType = none) {l1 : Int32} {l2 : Int32} {S : St} {res : St} {H : Heap} {locs : List Loc} {ls : Array Slot}  (hd : Dy G S s H locs) (hl : lv_has ls 4 [(0, .ref (gR G 32)), (1, .int l1), (2, .int l2)]) (h : BX6_singerLine_102 l1 l2 S = some res) : W p l e (rmL 7 0 0) s m args below meth c H locs 0 0 (MQ below (QV G res) args s 0 0 (Ab G)) (F0 m 102 ls []) := by
  unfold BX6_singerLine_102 at h
  have hx := C.1.1
  have hb := C.1.2.1
  refine lv_aload_n hx hb dX6_singerLine_102 rfl (lv_at hl 0 rfl) ?_
  obtain ⟨S1, hc, h⟩ := bv_some h
  refine R_cVv C hd (ccX6_passEnd l G  hc) kX6_134 rfl (by decide) (rfl : kd 32 = 6) hl.1 ⟨by decide, by decide⟩ rfl rfl (Nat.le_of_ble_eq_true rfl) dX6_singerLine_103 ⟨Nat.zero_le _, Nat.zero_le _⟩ (fun H locs hd => ?_)
  generalize S1 = S at h hd
  refine lv_aload_n hx hb dX6_singerLine_106 rfl (lv_at hl 0 rfl) ?_
  refine gX6_38 C hd (rfl : kd 32 = 6) dX6_singerLine_107 ?_
  refine lv_if_ne (tgt := 159) hx hb dX6_singerLine_110 (by decide) (fun c1 => ?_) (fun c1 => ?_)
  · rw [if_neg c1] at h
    exact R_vret C hr hd h dX6_singerLine_159
  · rw [if_pos c1] at h
    refine lv_aload_n hx hb dX6_singerLine_113 rfl (lv_at hl 0 rfl) ?_
    refine gX6_29 C hd (rfl : kd 32 = 6) h dX6_singerLine_114 (fun q2 kq2 h => ?_)
    refine gX6_157 C hd kq2 (q := sr q2 8) rfl dX6_singerLine_117 (fun y3 => ?_)
    refine lv_iload_n hx hb dX6_singerLine_120 rfl (lv_at hl 1 rfl) ?_
    refine lv_iload_n hx hb dX6_singerLine_121 rfl (lv_at hl 2 rfl) ?_
    refine R_iast C hd y3 h dX6_singerLine_122 (fun S H locs hd h => ?_)
    refine lv_aload_n hx hb dX6_singerLine_123 rfl (lv_at hl 0 rfl) ?_
    refine gX6_29 C hd (rfl : kd 32 = 6) h dX6_singerLine_124 (fun q4 kq4 h => ?_)
    refine gX6_160 C hd kq4 (q := sr q4 10) rfl dX6_singerLine_127 (fun y5 => ?_)
    refine lv_iload_n hx hb dX6_singerLine_130 rfl (lv_at hl 1 rfl) ?_
    refine lv_iconst (v := 1) hx hb dX6_singerLine_131 (by decide) ?_
    refine lv_aload_n hx hb dX6_singerLine_132 rfl (lv_at hl 0 rfl) ?_
    refine gX6_29 C hd (rfl : kd 32 = 6) h dX6_singerLine_133 (fun q6 kq6 h => ?_)
    refine gX6_154 C hd kq6 (q := sr q6 9) rfl dX6_singerLine_136 (fun y7 => ?_)
    refine lv_iload_n hx hb dX6_singerLine_139 rfl (lv_at hl 1 rfl) ?_
    refine lv_bipush (v := 6) hx hb dX6_singerLine_140 (by decide) ?_
    refine lv_imul hx hb dX6_singerLine_142 ?_
    refine R_iald C hd y7 h dX6_singerLine_143 (fun x8 h => ?_)
    refine lv_ishl hx hb dX6_singerLine_144 ?_
    refine R_iast C hd y5 h dX6_singerLine_145 (fun S H locs hd h => ?_)
    refine lv_aload_n hx hb dX6_singerLine_146 rfl (lv_at hl 0 rfl) ?_
    refine gX6_29 C hd (rfl : kd 32 = 6) h dX6_singerLine_147 (fun q9 kq9 h => ?_)
    refine lv_dup hx hb dX6_singerLine_150 rfl ?_
    refine gX6_124 C hd kq9 dX6_singerLine_151 ?_
    refine lv_iconst (v := 1) hx hb dX6_singerLine_154 (by decide) ?_
    refine lv_iadd hx hb dX6_singerLine_155 ?_
    refine pX6_124 C hd kq9 h dX6_singerLine_156 (fun S H locs hd h => ?_)
    exact R_vret C hr hd h dX6_singerLine_159
def BX6_singerLine_58 (r29 : Int32 → Int32 → Int32 → St → Option St) (l1 : Int32) (l2 : Int32) (l3 : Int32) (S : St) : Option St :=
  (if l3 = 6 then bd (fX6_refuse 2 S) fun x7 S => some S else gm S 32 2 8 fun q2 => bd (fX6_fieldHere  S) fun x4 S => wr S (sr q2 9) ((l1 * 6) + l3) x4 fun S => bv (fX6_pass  S) fun S => vl (l2 + 1) fun x5 => vl (l3 + 1) fun x6 => (r29 l1 x5 x6 S))
set_option maxHeartbeats 4000000 in
set_option maxRecDepth 20000 in
theorem sBX6_singerLine_58 (C : Cx p s m args meth c cX6_singerLine 4 RX6 G) (hr : meth.sig.returnType = none) {r29 : Int32 → Int32 → Int32 → St → Option St} (hr29 : ∀ (l1 : Int32) (l2 : Int32) (l3 : Int32) (S : St) (res : St) (H : Heap) (locs : List Loc) (ls : Array Slot), Dy G S s H locs → lv_has ls 4 [(0, .ref (gR G 32)), (1, .int l1), (2, .int l2), (3, .int l3)] → r29 l1 l2 l3 S = some res → W p l e (rmL 7 0 0) s m args below meth c H locs 0 0 (MQ below (QV G res) args s 0 0 (Ab G)) (F0 m 29 ls [])) {l1 : Int32} {l2 : Int32} {l3 : Int32} {S : St} {res : St} {H : Heap} {locs : List Loc} {ls : Array Slot}  (hd : Dy G S s H locs) (hl : lv_has ls 4 [(0, .ref (gR G 32)), (1, .int l1), (2, .int l2), (3, .int l3)]) (h : BX6_singerLine_58 r29 l1 l2 l3 S = some res) : W p l e (rmL 7 0 0) s m args below meth c H locs 0 0 (MQ below (QV G res) args s 0 0 (Ab G)) (F0 m 58 ls []) := by
  unfold BX6_singerLine_58 at h
  have hx := C.1.1
  have hb := C.1.2.1
  refine lv_iload_n hx hb dX6_singerLine_58 rfl (lv_at hl 3 rfl) ?_
  refine lv_bipush (v := 6) hx hb dX6_singerLine_59 (by decide) ?_
  refine lv_icmp_ne (tgt := 71) hx hb dX6_singerLine_61 (by decide) (fun c1 => ?_) (fun c1 => ?_)
  · rw [if_neg c1] at h
    refine lv_aload_n hx hb dX6_singerLine_71 rfl (lv_at hl 0 rfl) ?_
    refine gX6_29 C hd (rfl : kd 32 = 6) h dX6_singerLine_72 (fun q2 kq2 h => ?_)
    refine gX6_154 C hd kq2 (q := sr q2 9) rfl dX6_singerLine_75 (fun y3 => ?_)
    refine lv_iload_n hx hb dX6_singerLine_78 rfl (lv_at hl 1 rfl) ?_
    refine lv_bipush (v := 6) hx hb dX6_singerLine_79 (by decide) ?_
    refine lv_imul hx hb dX6_singerLine_81 ?_
    refine lv_iload_n hx hb dX6_singerLine_82 rfl (lv_at hl 3 rfl) ?_
    refine lv_iadd hx hb dX6_singerLine_83 ?_
    refine lv_aload_n hx hb dX6_singerLine_84 rfl (lv_at hl 0 rfl) ?_
    obtain ⟨x4, S1, hc, h⟩ := bd_some h
    refine R_cVi C hd (ccX6_fieldHere l G  hc) kX6_143 rfl (by decide) (rfl : kd 32 = 6) hl.1 ⟨by decide, by decide⟩ rfl rfl (Nat.le_of_ble_eq_true rfl) dX6_singerLine_85 ⟨Nat.zero_le _, Nat.zero_le _⟩ (fun H locs hd => ?_)
    generalize S1 = S at h hd
    refine R_iast C hd y3 h dX6_singerLine_88 (fun S H locs hd h => ?_)
    refine lv_aload_n hx hb dX6_singerLine_89 rfl (lv_at hl 0 rfl) ?_
    obtain ⟨S1, hc, h⟩ := bv_some h
    refine R_cVv C hd (ccX6_pass l G  hc) kX6_107 rfl (by decide) (rfl : kd 32 = 6) hl.1 ⟨by decide, by decide⟩ rfl rfl (Nat.le_of_ble_eq_true rfl) dX6_singerLine_90 ⟨Nat.zero_le _, Nat.zero_le _⟩ (fun H locs hd => ?_)
    generalize S1 = S at h hd
    refine R_vi h (fun x5 ex5 h => ?_)
    refine lv_iinc (v := x5) (lv' := [(2, .int x5), (0, .ref (gR G 32)), (1, .int l1), (3, .int l3)]) hx hb dX6_singerLine_93 hl (k := 2) rfl (by rw [ex5]; rfl) (by decide) rfl (fun ls hl => ?_)
    refine R_vi h (fun x6 ex6 h => ?_)
    refine lv_iinc (v := x6) (lv' := [(3, .int x6), (2, .int x5), (0, .ref (gR G 32)), (1, .int l1)]) hx hb dX6_singerLine_96 hl (k := 3) rfl (by rw [ex6]; rfl) (by decide) rfl (fun ls hl => ?_)
    refine lv_goto (tgt := 29) hx hb dX6_singerLine_99 (by decide) ?_
    exact hr29 l1 x5 x6 _ _ _ _ _  hd (lv_sub hl [2, 3, 1, 0] rfl) h
  · rw [if_pos c1] at h
    refine lv_aload_n hx hb dX6_singerLine_64 rfl (lv_at hl 0 rfl) ?_
    refine lv_iconst (v := 2) hx hb dX6_singerLine_65 (by decide) ?_
    obtain ⟨x7, S1, hc, h⟩ := bd_some h
    refine R_cVi C hd (ccX6_refuse l G  hc) kX6_94 rfl (by decide) (rfl : kd 32 = 6) hl.1 ⟨by decide, by decide⟩ rfl rfl (Nat.le_of_ble_eq_true rfl) dX6_singerLine_66 ⟨Nat.zero_le _, Nat.zero_le _⟩ (fun H locs hd => ?_)
    generalize S1 = S at h hd
    refine lv_pop hx hb dX6_singerLine_69 rfl ?_
    exact R_vret C hr hd h dX6_singerLine_70
def KX6_singerLine_29 (r29 : Int32 → Int32 → Int32 → St → Option St) (l1 : Int32) (l2 : Int32) (l3 : Int32) (S : St) : Option St :=
  (if 6 < l3 then (BX6_singerLine_102 l1 l2 S) else (if (S 32 3) = 0 then (if l3 < 1 then (BX6_singerLine_58 r29 l1 l2 l3 S) else (if (S 33 3) = 2 then (BX6_singerLine_58 r29 l1 l2 l3 S) else (BX6_singerLine_102 l1 l2 S))) else (BX6_singerLine_102 l1 l2 S)))
set_option maxHeartbeats 4000000 in
set_option maxRecDepth 20000 in
theorem sKX6_singerLine_29 (C : Cx p s m args meth c cX6_singerLine 4 RX6 G) (hr : meth.sig.returnType = none) {r29 : Int32 → Int32 → Int32 → St → Option St} (hr29 : ∀ (l1 : Int32) (l2 : Int32) (l3 : Int32) (S : St) (res : St) (H : Heap) (locs : List Loc) (ls : Array Slot), Dy G S s H locs → lv_has ls 4 [(0, .ref (gR G 32)), (1, .int l1), (2, .int l2), (3, .int l3)] → r29 l1 l2 l3 S = some res → W p l e (rmL 7 0 0) s m args below meth c H locs 0 0 (MQ below (QV G res) args s 0 0 (Ab G)) (F0 m 29 ls [])) {l1 : Int32} {l2 : Int32} {l3 : Int32} {S : St} {res : St} {H : Heap} {locs : List Loc} {ls : Array Slot}  (hd : Dy G S s H locs) (hl : lv_has ls 4 [(0, .ref (gR G 32)), (1, .int l1), (2, .int l2), (3, .int l3)]) (h : KX6_singerLine_29 r29 l1 l2 l3 S = some res) : W p l e (rmL 7 0 0) s m args below meth c H locs 0 0 (MQ below (QV G res) args s 0 0 (Ab G)) (F0 m 29 ls []) := by
  unfold KX6_singerLine_29 at h
  have hx := C.1.1
  have hb := C.1.2.1
  refine lv_iload_n hx hb dX6_singerLine_29 rfl (lv_at hl 3 rfl) ?_
  refine lv_bipush (v := 6) hx hb dX6_singerLine_30 (by decide) ?_
  refine lv_icmp_gt (tgt := 102) hx hb dX6_singerLine_32 (by decide) (fun c1 => ?_) (fun c1 => ?_)
  · rw [if_pos c1] at h
    exact sBX6_singerLine_102 C hr  hd (lv_sub hl [0, 1, 2] rfl) h
  · rw [if_neg c1] at h
    refine lv_aload_n hx hb dX6_singerLine_35 rfl (lv_at hl 0 rfl) ?_
    refine gX6_38 C hd (rfl : kd 32 = 6) dX6_singerLine_36 ?_
    refine lv_if_ne (tgt := 102) hx hb dX6_singerLine_39 (by decide) (fun c2 => ?_) (fun c2 => ?_)
    · rw [if_neg c2] at h
      exact sBX6_singerLine_102 C hr  hd (lv_sub hl [0, 1, 2] rfl) h
    · rw [if_pos c2] at h
      refine lv_iload_n hx hb dX6_singerLine_42 rfl (lv_at hl 3 rfl) ?_
      refine lv_iconst (v := 1) hx hb dX6_singerLine_43 (by decide) ?_
      refine lv_icmp_lt (tgt := 58) hx hb dX6_singerLine_44 (by decide) (fun c3 => ?_) (fun c3 => ?_)
      · rw [if_pos c3] at h
        exact sBX6_singerLine_58 C hr hr29  hd (lv_sub hl [0, 1, 2, 3] rfl) h
      · rw [if_neg c3] at h
        refine lv_aload_n hx hb dX6_singerLine_47 rfl (lv_at hl 0 rfl) ?_
        refine gX6_14 C hd (rfl : kd 32 = 6) (q := 33) rfl dX6_singerLine_48 (fun y4 => ?_)
        refine gX6_49 C hd y4 dX6_singerLine_51 ?_
        refine lv_iconst (v := 2) hx hb dX6_singerLine_54 (by decide) ?_
        refine lv_icmp_ne (tgt := 102) hx hb dX6_singerLine_55 (by decide) (fun c5 => ?_) (fun c5 => ?_)
        · rw [if_neg c5] at h
          exact sBX6_singerLine_102 C hr  hd (lv_sub hl [0, 1, 2] rfl) h
        · rw [if_pos c5] at h
          exact sBX6_singerLine_58 C hr hr29  hd (lv_sub hl [0, 1, 2, 3] rfl) h
def LX6_singerLine_29 : Nat → Int32 → Int32 → Int32 → St → Option St
  | 0 => fun _ _ _ _ => none
  | n + 1 => fun l1 l2 l3 S => KX6_singerLine_29 (LX6_singerLine_29 n) l1 l2 l3 S
theorem sLX6_singerLine_29 (C : Cx p s m args meth c cX6_singerLine 4 RX6 G) (hr : meth.sig.returnType = none) : ∀ (n : Nat) (l1 : Int32) (l2 : Int32) (l3 : Int32) (S : St) (res : St) (H : Heap) (locs : List Loc) (ls : Array Slot), Dy G S s H locs → lv_has ls 4 [(0, .ref (gR G 32)), (1, .int l1), (2, .int l2), (3, .int l3)] → LX6_singerLine_29 n l1 l2 l3 S = some res → W p l e (rmL 7 0 0) s m args below meth c H locs 0 0 (MQ below (QV G res) args s 0 0 (Ab G)) (F0 m 29 ls []) := by
  intro n
  induction n with
  | zero => intro l1 l2 l3 S res H locs ls  hd hl h; cases h
  | succ n ih =>
    intro l1 l2 l3 S res H locs ls  hd hl h
    exact sKX6_singerLine_29 C hr ih  hd hl h
def fX6_singerLine  (S : St) : Option St :=
  gm S 32 2 8 fun q1 => vl (S q1 2) fun x2 => (if x2 < 6 then bv (fX6_pass  S) fun S => (LX6_singerLine_29 FU x2 0 0 S) else bd (fX6_refuse 2 S) fun x4 S => some S)
set_option maxHeartbeats 4000000 in
set_option maxRecDepth 20000 in
theorem sfX6_singerLine (C : Cx p s m args meth c cX6_singerLine 4 RX6 G) (hr : meth.sig.returnType = none)  {S : St} {res : St} {H : Heap} {locs : List Loc} {ls : Array Slot}  (hd : Dy G S s H locs) (hl : lv_has ls 4 [(0, .ref (gR G 32))]) (h : fX6_singerLine  S = some res) : W p l e (rmL 7 0 0) s m args below meth c H locs 0 0 (MQ below (QV G res) args s 0 0 (Ab G)) (F0 m 0 ls []) := by
  unfold fX6_singerLine at h
  have hx := C.1.1
  have hb := C.1.2.1
  refine lv_aload_n hx hb dX6_singerLine_0 rfl (lv_at hl 0 rfl) ?_
  refine gX6_29 C hd (rfl : kd 32 = 6) h dX6_singerLine_1 (fun q1 kq1 h => ?_)
  refine gX6_124 C hd kq1 dX6_singerLine_4 ?_
  refine R_vl h (fun x2 h => ?_)
  refine lv_istore_n (lv' := [(1, .int x2), (0, .ref (gR G 32))]) hx hb dX6_singerLine_7 rfl hl (by decide) rfl (fun ls hl => ?_)
  refine lv_iload_n hx hb dX6_singerLine_8 rfl (lv_at hl 0 rfl) ?_
  refine lv_bipush (v := 6) hx hb dX6_singerLine_9 (by decide) ?_
  refine lv_icmp_lt (tgt := 21) hx hb dX6_singerLine_11 (by decide) (fun c3 => ?_) (fun c3 => ?_)
  · rw [if_pos c3] at h
    refine lv_aload_n hx hb dX6_singerLine_21 rfl (lv_at hl 1 rfl) ?_
    obtain ⟨S1, hc, h⟩ := bv_some h
    refine R_cVv C hd (ccX6_pass l G  hc) kX6_107 rfl (by decide) (rfl : kd 32 = 6) hl.1 ⟨by decide, by decide⟩ rfl rfl (Nat.le_of_ble_eq_true rfl) dX6_singerLine_22 ⟨Nat.zero_le _, Nat.zero_le _⟩ (fun H locs hd => ?_)
    generalize S1 = S at h hd
    refine lv_iconst (v := 0) hx hb dX6_singerLine_25 (by decide) ?_
    refine lv_istore_n (lv' := [(2, .int 0), (1, .int x2), (0, .ref (gR G 32))]) hx hb dX6_singerLine_26 rfl hl (by decide) rfl (fun ls hl => ?_)
    refine lv_iconst (v := 0) hx hb dX6_singerLine_27 (by decide) ?_
    refine lv_istore_n (lv' := [(3, .int 0), (2, .int 0), (1, .int x2), (0, .ref (gR G 32))]) hx hb dX6_singerLine_28 rfl hl (by decide) rfl (fun ls hl => ?_)
    exact sLX6_singerLine_29 C hr _ x2 0 0 _ _ _ _ _  hd (lv_sub hl [3, 2, 1, 0] rfl) h
  · rw [if_neg c3] at h
    refine lv_aload_n hx hb dX6_singerLine_14 rfl (lv_at hl 1 rfl) ?_
    refine lv_iconst (v := 2) hx hb dX6_singerLine_15 (by decide) ?_
    obtain ⟨x4, S1, hc, h⟩ := bd_some h
    refine R_cVi C hd (ccX6_refuse l G  hc) kX6_94 rfl (by decide) (rfl : kd 32 = 6) hl.1 ⟨by decide, by decide⟩ rfl rfl (Nat.le_of_ble_eq_true rfl) dX6_singerLine_16 ⟨Nat.zero_le _, Nat.zero_le _⟩ (fun H locs hd => ?_)
    generalize S1 = S at h hd
    refine lv_pop hx hb dX6_singerLine_19 rfl ?_
    exact R_vret C hr hd h dX6_singerLine_20
set_option maxRecDepth 20000 in
theorem ccX6_singerLine (l : Launch) (G : Gt)  {S : St} {res : St}  (h : fX6_singerLine  S = some res) : Met l yX6_singerLine (wm yX6_singerLine cX6_singerLine 4 (none)) (rmL 7 0 0) (PcW G S [.ref (gR G 32)]) (QV G res) 0 0 (Ab G) := by
  refine Met.ofW (cc := cX6_singerLine) (maxL := 4) (ret := none) (by decide) rfl ?_
  intro p e s m args below meth c s₁ B hml hv
  obtain ⟨rfl, hK, hP⟩ := hv
  have C : Cx p s m _ meth c cX6_singerLine 4 RX6 G := ⟨⟨B.exec, B.bytes, hml, findClass_of_methodNamed B.named, fun w hw => atoms_spec (ws := wm yX6_singerLine cX6_singerLine 4 (none)) B.pre w (List.mem_cons_of_mem _ hw)⟩, B.notSynchronized, hK⟩
  have hl := lv_entry ([.ref (gR G 32)]) (n := 4) (Nat.le_of_ble_eq_true rfl)
  rw [lg_entry_eq]
  generalize (lg_sl ([.ref (gR G 32)]) ++ List.replicate (4 - (lg_sl ([.ref (gR G 32)])).length) Slot.unset).toArray = ls at hl ⊢
  exact sfX6_singerLine C B.returns  ⟨hP, va_S.rf⟩ hl h
def BX6_tell_217  (S : St) : Option (Int32 × St) :=
  (if (S 32 3) = 0 then gm S 32 2 8 fun q2 => bv (fX8_measure q2 S) fun S => ri (S 32 3) S else ri (S 32 3) S)
set_option maxHeartbeats 4000000 in
set_option maxRecDepth 20000 in
theorem sBX6_tell_217 (C : Cx p s m args meth c cX6_tell 4 RX6 G) (hr : meth.sig.returnType = some .int)  {S : St} {res : (Int32 × St)} {H : Heap} {locs : List Loc} {ls : Array Slot}  (hd : Dy G S s H locs) (hl : lv_has ls 4 [(0, .ref (gR G 32))]) (h : BX6_tell_217  S = some res) : W p l e (rmL 11 0 0) s m args below meth c H locs 0 0 (MQ below (QI G res.1 res.2) args s 0 0 (Ab G)) (F0 m 217 ls []) := by
  unfold BX6_tell_217 at h
  have hx := C.1.1
  have hb := C.1.2.1
  refine lv_aload_n hx hb dX6_tell_217 rfl (lv_at hl 0 rfl) ?_
  refine gX6_38 C hd (rfl : kd 32 = 6) dX6_tell_218 ?_
  refine lv_if_ne (tgt := 231) hx hb dX6_tell_221 (by decide) (fun c1 => ?_) (fun c1 => ?_)
  · rw [if_neg c1] at h
    refine lv_aload_n hx hb dX6_tell_231 rfl (lv_at hl 0 rfl) ?_
    refine gX6_38 C hd (rfl : kd 32 = 6) dX6_tell_232 ?_
    exact R_iret C hr hd h dX6_tell_235
  · rw [if_pos c1] at h
    refine lv_aload_n hx hb dX6_tell_224 rfl (lv_at hl 0 rfl) ?_
    refine gX6_29 C hd (rfl : kd 32 = 6) h dX6_tell_225 (fun q2 kq2 h => ?_)
    obtain ⟨S1, hc, h⟩ := bv_some h
    refine R_cVv C hd (ccX8_measure l G kq2 hc) kX6_98 rfl (by decide) kq2 hl.1 ⟨by decide, by decide⟩ rfl rfl (Nat.le_of_ble_eq_true rfl) dX6_tell_228 ⟨Nat.zero_le _, Nat.zero_le _⟩ (fun H locs hd => ?_)
    generalize S1 = S at h hd
    refine lv_aload_n hx hb dX6_tell_231 rfl (lv_at hl 0 rfl) ?_
    refine gX6_38 C hd (rfl : kd 32 = 6) dX6_tell_232 ?_
    exact R_iret C hr hd h dX6_tell_235
def BX6_tell_211 (r32 : Int32 → St → Option (Int32 × St)) (l3 : Int32) (S : St) : Option (Int32 × St) :=
  vl (l3 + 1) fun x1 => (r32 x1 S)
set_option maxHeartbeats 4000000 in
set_option maxRecDepth 20000 in
theorem sBX6_tell_211 (C : Cx p s m args meth c cX6_tell 4 RX6 G) (hr : meth.sig.returnType = some .int) {r32 : Int32 → St → Option (Int32 × St)} (hr32 : ∀ (l3 : Int32) (S : St) (res : (Int32 × St)) (H : Heap) (locs : List Loc) (ls : Array Slot), Dy G S s H locs → lv_has ls 4 [(0, .ref (gR G 32)), (3, .int l3)] → r32 l3 S = some res → W p l e (rmL 11 0 0) s m args below meth c H locs 0 0 (MQ below (QI G res.1 res.2) args s 0 0 (Ab G)) (F0 m 32 ls [])) {l3 : Int32} {S : St} {res : (Int32 × St)} {H : Heap} {locs : List Loc} {ls : Array Slot}  (hd : Dy G S s H locs) (hl : lv_has ls 4 [(0, .ref (gR G 32)), (3, .int l3)]) (h : BX6_tell_211 r32 l3 S = some res) : W p l e (rmL 11 0 0) s m args below meth c H locs 0 0 (MQ below (QI G res.1 res.2) args s 0 0 (Ab G)) (F0 m 211 ls []) := by
  unfold BX6_tell_211 at h
  have hx := C.1.1
  have hb := C.1.2.1
  refine R_vi h (fun x1 ex1 h => ?_)
  refine lv_iinc (v := x1) (lv' := [(3, .int x1), (0, .ref (gR G 32))]) hx hb dX6_tell_211 hl (k := 1) rfl (by rw [ex1]; rfl) (by decide) rfl (fun ls hl => ?_)
  refine lv_goto (tgt := 32) hx hb dX6_tell_214 (by decide) ?_
  exact hr32 x1 _ _ _ _ _  hd (lv_sub hl [1, 0] rfl) h
def KX6_tell_32 (r32 : Int32 → St → Option (Int32 × St)) (l3 : Int32) (S : St) : Option (Int32 × St) :=
  (if 700 < l3 then (BX6_tell_217  S) else (if (S 32 3) = 0 then (if (S 33 3) = 0 then (BX6_tell_217  S) else bd (fX7_is 1 S) fun x6 S => (if x6 = 0 then bd (fX7_is 2 S) fun x9 S => (if x9 = 0 then bd (fX7_is 3 S) fun x12 S => (if x12 = 0 then bd (fX7_is 4 S) fun x15 S => (if x15 = 0 then bd (fX7_is 5 S) fun x18 S => (if x18 = 0 then bd (fX7_is 6 S) fun x21 S => (if x21 = 0 then bd (fX7_is 17 S) fun x24 S => (if x24 = 0 then bd (fX6_refuse 1 S) fun x26 S => (BX6_tell_211 r32 l3 S) else gm S 32 2 8 fun q27 => bv (fX6_ruleLine (sr q27 13) 0 S) fun S => (BX6_tell_211 r32 l3 S)) else gm S 32 2 8 fun q29 => bv (fX6_ruleLine (sr q29 12) 1 S) fun S => (BX6_tell_211 r32 l3 S)) else bv (fX6_ownsLine  S) fun S => (BX6_tell_211 r32 l3 S)) else bv (fX6_knowsLine  S) fun S => (BX6_tell_211 r32 l3 S)) else bv (fX6_singerLine  S) fun S => (BX6_tell_211 r32 l3 S)) else bv (fX6_pathLine  S) fun S => (BX6_tell_211 r32 l3 S)) else bv (fX6_fieldLine  S) fun S => (BX6_tell_211 r32 l3 S))) else (BX6_tell_217  S)))
set_option maxHeartbeats 4000000 in
set_option maxRecDepth 20000 in
theorem sKX6_tell_32 (C : Cx p s m args meth c cX6_tell 4 RX6 G) (hr : meth.sig.returnType = some .int) {r32 : Int32 → St → Option (Int32 × St)} (hr32 : ∀ (l3 : Int32) (S : St) (res : (Int32 × St)) (H : Heap) (locs : List Loc) (ls : Array Slot), Dy G S s H locs → lv_has ls 4 [(0, .ref (gR G 32)), (3, .int l3)] → r32 l3 S = some res → W p l e (rmL 11 0 0) s m args below meth c H locs 0 0 (MQ below (QI G res.1 res.2) args s 0 0 (Ab G)) (F0 m 32 ls [])) {l3 : Int32} {S : St} {res : (Int32 × St)} {H : Heap} {locs : List Loc} {ls : Array Slot}  (hd : Dy G S s H locs) (hl : lv_has ls 4 [(0, .ref (gR G 32)), (3, .int l3)]) (h : KX6_tell_32 r32 l3 S = some res) : W p l e (rmL 11 0 0) s m args below meth c H locs 0 0 (MQ below (QI G res.1 res.2) args s 0 0 (Ab G)) (F0 m 32 ls []) := by
  unfold KX6_tell_32 at h
  have hx := C.1.1
  have hb := C.1.2.1
  refine lv_iload_n hx hb dX6_tell_32 rfl (lv_at hl 1 rfl) ?_
  refine lv_sipush (v := 700) hx hb dX6_tell_33 (by decide) ?_
  refine lv_icmp_gt (tgt := 217) hx hb dX6_tell_36 (by decide) (fun c1 => ?_) (fun c1 => ?_)
  · rw [if_pos c1] at h
    exact sBX6_tell_217 C hr  hd (lv_sub hl [0] rfl) h
  · rw [if_neg c1] at h
    refine lv_aload_n hx hb dX6_tell_39 rfl (lv_at hl 0 rfl) ?_
    refine gX6_38 C hd (rfl : kd 32 = 6) dX6_tell_40 ?_
    refine lv_if_ne (tgt := 217) hx hb dX6_tell_43 (by decide) (fun c2 => ?_) (fun c2 => ?_)
    · rw [if_neg c2] at h
      exact sBX6_tell_217 C hr  hd (lv_sub hl [0] rfl) h
    · rw [if_pos c2] at h
      refine lv_aload_n hx hb dX6_tell_46 rfl (lv_at hl 0 rfl) ?_
      refine gX6_14 C hd (rfl : kd 32 = 6) (q := 33) rfl dX6_tell_47 (fun y3 => ?_)
      refine gX6_49 C hd y3 dX6_tell_50 ?_
      refine lv_if_eq (tgt := 217) hx hb dX6_tell_53 (by decide) (fun c4 => ?_) (fun c4 => ?_)
      · rw [if_pos c4] at h
        exact sBX6_tell_217 C hr  hd (lv_sub hl [0] rfl) h
      · rw [if_neg c4] at h
        refine lv_aload_n hx hb dX6_tell_56 rfl (lv_at hl 0 rfl) ?_
        refine gX6_14 C hd (rfl : kd 32 = 6) (q := 33) rfl dX6_tell_57 (fun y5 => ?_)
        refine va_ldcS hx hb C.1.2.2.2.1 (C.2.2.2.2.1 ("SongFields$Teller", 52, "field", 1) (List.mem_of_getElem? (i := 1) rfl)) dX6_tell_60 ?_
        obtain ⟨x6, S1, hc, h⟩ := bd_some h
        refine R_cVi C hd (ccX7_is l G  hc) kX6_54 rfl (by decide) y5 hl.1 ⟨by decide, by decide⟩ rfl rfl (Nat.le_of_ble_eq_true rfl) dX6_tell_62 ⟨Nat.zero_le _, Nat.zero_le _⟩ (fun H locs hd => ?_)
        generalize S1 = S at h hd
        refine lv_if_eq (tgt := 75) hx hb dX6_tell_65 (by decide) (fun c7 => ?_) (fun c7 => ?_)
        · rw [if_pos c7] at h
          refine lv_aload_n hx hb dX6_tell_75 rfl (lv_at hl 0 rfl) ?_
          refine gX6_14 C hd (rfl : kd 32 = 6) (q := 33) rfl dX6_tell_76 (fun y8 => ?_)
          refine va_ldcS hx hb C.1.2.2.2.1 (C.2.2.2.2.1 ("SongFields$Teller", 61, "path", 2) (List.mem_of_getElem? (i := 2) rfl)) dX6_tell_79 ?_
          obtain ⟨x9, S1, hc, h⟩ := bd_some h
          refine R_cVi C hd (ccX7_is l G  hc) kX6_54 rfl (by decide) y8 hl.1 ⟨by decide, by decide⟩ rfl rfl (Nat.le_of_ble_eq_true rfl) dX6_tell_81 ⟨Nat.zero_le _, Nat.zero_le _⟩ (fun H locs hd => ?_)
          generalize S1 = S at h hd
          refine lv_if_eq (tgt := 94) hx hb dX6_tell_84 (by decide) (fun c10 => ?_) (fun c10 => ?_)
          · rw [if_pos c10] at h
            refine lv_aload_n hx hb dX6_tell_94 rfl (lv_at hl 0 rfl) ?_
            refine gX6_14 C hd (rfl : kd 32 = 6) (q := 33) rfl dX6_tell_95 (fun y11 => ?_)
            refine va_ldcS hx hb C.1.2.2.2.1 (C.2.2.2.2.1 ("SongFields$Teller", 66, "singer", 3) (List.mem_of_getElem? (i := 3) rfl)) dX6_tell_98 ?_
            obtain ⟨x12, S1, hc, h⟩ := bd_some h
            refine R_cVi C hd (ccX7_is l G  hc) kX6_54 rfl (by decide) y11 hl.1 ⟨by decide, by decide⟩ rfl rfl (Nat.le_of_ble_eq_true rfl) dX6_tell_100 ⟨Nat.zero_le _, Nat.zero_le _⟩ (fun H locs hd => ?_)
            generalize S1 = S at h hd
            refine lv_if_eq (tgt := 113) hx hb dX6_tell_103 (by decide) (fun c13 => ?_) (fun c13 => ?_)
            · rw [if_pos c13] at h
              refine lv_aload_n hx hb dX6_tell_113 rfl (lv_at hl 0 rfl) ?_
              refine gX6_14 C hd (rfl : kd 32 = 6) (q := 33) rfl dX6_tell_114 (fun y14 => ?_)
              refine va_ldcS hx hb C.1.2.2.2.1 (C.2.2.2.2.1 ("SongFields$Teller", 71, "knows", 4) (List.mem_of_getElem? (i := 4) rfl)) dX6_tell_117 ?_
              obtain ⟨x15, S1, hc, h⟩ := bd_some h
              refine R_cVi C hd (ccX7_is l G  hc) kX6_54 rfl (by decide) y14 hl.1 ⟨by decide, by decide⟩ rfl rfl (Nat.le_of_ble_eq_true rfl) dX6_tell_119 ⟨Nat.zero_le _, Nat.zero_le _⟩ (fun H locs hd => ?_)
              generalize S1 = S at h hd
              refine lv_if_eq (tgt := 132) hx hb dX6_tell_122 (by decide) (fun c16 => ?_) (fun c16 => ?_)
              · rw [if_pos c16] at h
                refine lv_aload_n hx hb dX6_tell_132 rfl (lv_at hl 0 rfl) ?_
                refine gX6_14 C hd (rfl : kd 32 = 6) (q := 33) rfl dX6_tell_133 (fun y17 => ?_)
                refine va_ldcS hx hb C.1.2.2.2.1 (C.2.2.2.2.1 ("SongFields$Teller", 76, "owns", 5) (List.mem_of_getElem? (i := 5) rfl)) dX6_tell_136 ?_
                obtain ⟨x18, S1, hc, h⟩ := bd_some h
                refine R_cVi C hd (ccX7_is l G  hc) kX6_54 rfl (by decide) y17 hl.1 ⟨by decide, by decide⟩ rfl rfl (Nat.le_of_ble_eq_true rfl) dX6_tell_138 ⟨Nat.zero_le _, Nat.zero_le _⟩ (fun H locs hd => ?_)
                generalize S1 = S at h hd
                refine lv_if_eq (tgt := 151) hx hb dX6_tell_141 (by decide) (fun c19 => ?_) (fun c19 => ?_)
                · rw [if_pos c19] at h
                  refine lv_aload_n hx hb dX6_tell_151 rfl (lv_at hl 0 rfl) ?_
                  refine gX6_14 C hd (rfl : kd 32 = 6) (q := 33) rfl dX6_tell_152 (fun y20 => ?_)
                  refine va_ldcS hx hb C.1.2.2.2.1 (C.2.2.2.2.1 ("SongFields$Teller", 81, "sings", 6) (List.mem_of_getElem? (i := 6) rfl)) dX6_tell_155 ?_
                  obtain ⟨x21, S1, hc, h⟩ := bd_some h
                  refine R_cVi C hd (ccX7_is l G  hc) kX6_54 rfl (by decide) y20 hl.1 ⟨by decide, by decide⟩ rfl rfl (Nat.le_of_ble_eq_true rfl) dX6_tell_157 ⟨Nat.zero_le _, Nat.zero_le _⟩ (fun H locs hd => ?_)
                  generalize S1 = S at h hd
                  refine lv_if_eq (tgt := 178) hx hb dX6_tell_160 (by decide) (fun c22 => ?_) (fun c22 => ?_)
                  · rw [if_pos c22] at h
                    refine lv_aload_n hx hb dX6_tell_178 rfl (lv_at hl 0 rfl) ?_
                    refine gX6_14 C hd (rfl : kd 32 = 6) (q := 33) rfl dX6_tell_179 (fun y23 => ?_)
                    refine va_ldcS hx hb C.1.2.2.2.1 (C.2.2.2.2.1 ("SongFields$Teller", 90, "fines", 17) (List.mem_of_getElem? (i := 19) rfl)) dX6_tell_182 ?_
                    obtain ⟨x24, S1, hc, h⟩ := bd_some h
                    refine R_cVi C hd (ccX7_is l G  hc) kX6_54 rfl (by decide) y23 hl.1 ⟨by decide, by decide⟩ rfl rfl (Nat.le_of_ble_eq_true rfl) dX6_tell_184 ⟨Nat.zero_le _, Nat.zero_le _⟩ (fun H locs hd => ?_)
                    generalize S1 = S at h hd
                    refine lv_if_eq (tgt := 205) hx hb dX6_tell_187 (by decide) (fun c25 => ?_) (fun c25 => ?_)
                    · rw [if_pos c25] at h
                      refine lv_aload_n hx hb dX6_tell_205 rfl (lv_at hl 0 rfl) ?_
                      refine lv_iconst (v := 1) hx hb dX6_tell_206 (by decide) ?_
                      obtain ⟨x26, S1, hc, h⟩ := bd_some h
                      refine R_cVi C hd (ccX6_refuse l G  hc) kX6_94 rfl (by decide) (rfl : kd 32 = 6) hl.1 ⟨by decide, by decide⟩ rfl rfl (Nat.le_of_ble_eq_true rfl) dX6_tell_207 ⟨Nat.zero_le _, Nat.zero_le _⟩ (fun H locs hd => ?_)
                      generalize S1 = S at h hd
                      refine lv_pop hx hb dX6_tell_210 rfl ?_
                      exact sBX6_tell_211 C hr hr32  hd (lv_sub hl [0, 1] rfl) h
                    · rw [if_neg c25] at h
                      refine lv_aload_n hx hb dX6_tell_190 rfl (lv_at hl 0 rfl) ?_
                      refine lv_aload_n hx hb dX6_tell_191 rfl (lv_at hl 0 rfl) ?_
                      refine gX6_29 C hd (rfl : kd 32 = 6) h dX6_tell_192 (fun q27 kq27 h => ?_)
                      refine gX6_92 C hd kq27 (q := sr q27 13) rfl dX6_tell_195 (fun y28 => ?_)
                      refine lv_iconst (v := 0) hx hb dX6_tell_198 (by decide) ?_
                      obtain ⟨S1, hc, h⟩ := bv_some h
                      refine R_cVv C hd (ccX6_ruleLine l G y28 hc) kX6_86 rfl (by decide) (rfl : kd 32 = 6) hl.1 ⟨by decide, by decide⟩ rfl rfl (Nat.le_of_ble_eq_true rfl) dX6_tell_199 ⟨Nat.zero_le _, Nat.zero_le _⟩ (fun H locs hd => ?_)
                      generalize S1 = S at h hd
                      refine lv_goto (tgt := 211) hx hb dX6_tell_202 (by decide) ?_
                      exact sBX6_tell_211 C hr hr32  hd (lv_sub hl [0, 1] rfl) h
                  · rw [if_neg c22] at h
                    refine lv_aload_n hx hb dX6_tell_163 rfl (lv_at hl 0 rfl) ?_
                    refine lv_aload_n hx hb dX6_tell_164 rfl (lv_at hl 0 rfl) ?_
                    refine gX6_29 C hd (rfl : kd 32 = 6) h dX6_tell_165 (fun q29 kq29 h => ?_)
                    refine gX6_83 C hd kq29 (q := sr q29 12) rfl dX6_tell_168 (fun y30 => ?_)
                    refine lv_iconst (v := 1) hx hb dX6_tell_171 (by decide) ?_
                    obtain ⟨S1, hc, h⟩ := bv_some h
                    refine R_cVv C hd (ccX6_ruleLine l G y30 hc) kX6_86 rfl (by decide) (rfl : kd 32 = 6) hl.1 ⟨by decide, by decide⟩ rfl rfl (Nat.le_of_ble_eq_true rfl) dX6_tell_172 ⟨Nat.zero_le _, Nat.zero_le _⟩ (fun H locs hd => ?_)
                    generalize S1 = S at h hd
                    refine lv_goto (tgt := 211) hx hb dX6_tell_175 (by decide) ?_
                    exact sBX6_tell_211 C hr hr32  hd (lv_sub hl [0, 1] rfl) h
                · rw [if_neg c19] at h
                  refine lv_aload_n hx hb dX6_tell_144 rfl (lv_at hl 0 rfl) ?_
                  obtain ⟨S1, hc, h⟩ := bv_some h
                  refine R_cVv C hd (ccX6_ownsLine l G  hc) kX6_78 rfl (by decide) (rfl : kd 32 = 6) hl.1 ⟨by decide, by decide⟩ rfl rfl (Nat.le_of_ble_eq_true rfl) dX6_tell_145 ⟨Nat.zero_le _, Nat.zero_le _⟩ (fun H locs hd => ?_)
                  generalize S1 = S at h hd
                  refine lv_goto (tgt := 211) hx hb dX6_tell_148 (by decide) ?_
                  exact sBX6_tell_211 C hr hr32  hd (lv_sub hl [0, 1] rfl) h
              · rw [if_neg c16] at h
                refine lv_aload_n hx hb dX6_tell_125 rfl (lv_at hl 0 rfl) ?_
                obtain ⟨S1, hc, h⟩ := bv_some h
                refine R_cVv C hd (ccX6_knowsLine l G  hc) kX6_73 rfl (by decide) (rfl : kd 32 = 6) hl.1 ⟨by decide, by decide⟩ rfl rfl (Nat.le_of_ble_eq_true rfl) dX6_tell_126 ⟨Nat.zero_le _, Nat.zero_le _⟩ (fun H locs hd => ?_)
                generalize S1 = S at h hd
                refine lv_goto (tgt := 211) hx hb dX6_tell_129 (by decide) ?_
                exact sBX6_tell_211 C hr hr32  hd (lv_sub hl [0, 1] rfl) h
            · rw [if_neg c13] at h
              refine lv_aload_n hx hb dX6_tell_106 rfl (lv_at hl 0 rfl) ?_
              obtain ⟨S1, hc, h⟩ := bv_some h
              refine R_cVv C hd (ccX6_singerLine l G  hc) kX6_68 rfl (by decide) (rfl : kd 32 = 6) hl.1 ⟨by decide, by decide⟩ rfl rfl (Nat.le_of_ble_eq_true rfl) dX6_tell_107 ⟨Nat.zero_le _, Nat.zero_le _⟩ (fun H locs hd => ?_)
              generalize S1 = S at h hd
              refine lv_goto (tgt := 211) hx hb dX6_tell_110 (by decide) ?_
              exact sBX6_tell_211 C hr hr32  hd (lv_sub hl [0, 1] rfl) h
          · rw [if_neg c10] at h
            refine lv_aload_n hx hb dX6_tell_87 rfl (lv_at hl 0 rfl) ?_
            obtain ⟨S1, hc, h⟩ := bv_some h
            refine R_cVv C hd (ccX6_pathLine l G  hc) kX6_63 rfl (by decide) (rfl : kd 32 = 6) hl.1 ⟨by decide, by decide⟩ rfl rfl (Nat.le_of_ble_eq_true rfl) dX6_tell_88 ⟨Nat.zero_le _, Nat.zero_le _⟩ (fun H locs hd => ?_)
            generalize S1 = S at h hd
            refine lv_goto (tgt := 211) hx hb dX6_tell_91 (by decide) ?_
            exact sBX6_tell_211 C hr hr32  hd (lv_sub hl [0, 1] rfl) h
        · rw [if_neg c7] at h
          refine lv_aload_n hx hb dX6_tell_68 rfl (lv_at hl 0 rfl) ?_
          obtain ⟨S1, hc, h⟩ := bv_some h
          refine R_cVv C hd (ccX6_fieldLine l G  hc) kX6_58 rfl (by decide) (rfl : kd 32 = 6) hl.1 ⟨by decide, by decide⟩ rfl rfl (Nat.le_of_ble_eq_true rfl) dX6_tell_69 ⟨Nat.zero_le _, Nat.zero_le _⟩ (fun H locs hd => ?_)
          generalize S1 = S at h hd
          refine lv_goto (tgt := 211) hx hb dX6_tell_72 (by decide) ?_
          exact sBX6_tell_211 C hr hr32  hd (lv_sub hl [0, 1] rfl) h
def LX6_tell_32 : Nat → Int32 → St → Option (Int32 × St)
  | 0 => fun _ _ => none
  | n + 1 => fun l3 S => KX6_tell_32 (LX6_tell_32 n) l3 S
theorem sLX6_tell_32 (C : Cx p s m args meth c cX6_tell 4 RX6 G) (hr : meth.sig.returnType = some .int) : ∀ (n : Nat) (l3 : Int32) (S : St) (res : (Int32 × St)) (H : Heap) (locs : List Loc) (ls : Array Slot), Dy G S s H locs → lv_has ls 4 [(0, .ref (gR G 32)), (3, .int l3)] → LX6_tell_32 n l3 S = some res → W p l e (rmL 11 0 0) s m args below meth c H locs 0 0 (MQ below (QI G res.1 res.2) args s 0 0 (Ab G)) (F0 m 32 ls []) := by
  intro n
  induction n with
  | zero => intro l3 S res H locs ls  hd hl h; cases h
  | succ n ih =>
    intro l3 S res H locs ls  hd hl h
    exact sKX6_tell_32 C hr ih  hd hl h
def fX6_tell (a1 : Int32) (a2 : Nat) (S : St) : Option (Int32 × St) :=
  pf S 32 2 (nI a2) fun S => gm S 32 2 8 fun q1 => bv (fX8_clear q1 S) fun S => pf S 32 3 0 fun S => pf S 32 4 ((-1)) fun S => bv (fX7_begin a1 S) fun S => (LX6_tell_32 FU 0 S)
set_option maxHeartbeats 4000000 in
set_option maxRecDepth 20000 in
theorem sfX6_tell (C : Cx p s m args meth c cX6_tell 4 RX6 G) (hr : meth.sig.returnType = some .int) {a1 : Int32} {a2 : Nat} {S : St} {res : (Int32 × St)} {H : Heap} {locs : List Loc} {ls : Array Slot} (k2 : kd a2 = 8) (hd : Dy G S s H locs) (hl : lv_has ls 4 [(0, .ref (gR G 32)), (1, .int a1), (2, .ref (gR G a2))]) (h : fX6_tell a1 a2 S = some res) : W p l e (rmL 11 0 0) s m args below meth c H locs 0 0 (MQ below (QI G res.1 res.2) args s 0 0 (Ab G)) (F0 m 0 ls []) := by
  unfold fX6_tell at h
  have hx := C.1.1
  have hb := C.1.2.1
  refine lv_aload_n hx hb dX6_tell_0 rfl (lv_at hl 0 rfl) ?_
  refine lv_aload_n hx hb dX6_tell_1 rfl (lv_at hl 2 rfl) ?_
  refine pX6_29 C hd (rfl : kd 32 = 6) k2 h dX6_tell_2 (fun S H locs hd h => ?_)
  refine lv_aload_n hx hb dX6_tell_5 rfl (lv_at hl 0 rfl) ?_
  refine gX6_29 C hd (rfl : kd 32 = 6) h dX6_tell_6 (fun q1 kq1 h => ?_)
  obtain ⟨S1, hc, h⟩ := bv_some h
  refine R_cVv C hd (ccX8_clear l G kq1 hc) kX6_33 rfl (by decide) kq1 hl.1 ⟨by decide, by decide⟩ rfl rfl (Nat.le_of_ble_eq_true rfl) dX6_tell_9 ⟨Nat.zero_le _, Nat.zero_le _⟩ (fun H locs hd => ?_)
  generalize S1 = S at h hd
  refine lv_aload_n hx hb dX6_tell_12 rfl (lv_at hl 0 rfl) ?_
  refine lv_iconst (v := 0) hx hb dX6_tell_13 (by decide) ?_
  refine pX6_38 C hd (rfl : kd 32 = 6) h dX6_tell_14 (fun S H locs hd h => ?_)
  refine lv_aload_n hx hb dX6_tell_17 rfl (lv_at hl 0 rfl) ?_
  refine lv_iconst (v := -1) hx hb dX6_tell_18 (by decide) ?_
  refine pX6_42 C hd (rfl : kd 32 = 6) h dX6_tell_19 (fun S H locs hd h => ?_)
  refine lv_aload_n hx hb dX6_tell_22 rfl (lv_at hl 0 rfl) ?_
  refine gX6_14 C hd (rfl : kd 32 = 6) (q := 33) rfl dX6_tell_23 (fun y2 => ?_)
  refine lv_iload_n hx hb dX6_tell_26 rfl (lv_at hl 1 rfl) ?_
  obtain ⟨S1, hc, h⟩ := bv_some h
  refine R_cVv C hd (ccX7_begin l G  hc) kX6_45 rfl (by decide) y2 hl.1 ⟨by decide, by decide⟩ rfl rfl (Nat.le_of_ble_eq_true rfl) dX6_tell_27 ⟨Nat.zero_le _, Nat.zero_le _⟩ (fun H locs hd => ?_)
  generalize S1 = S at h hd
  refine lv_iconst (v := 0) hx hb dX6_tell_30 (by decide) ?_
  refine lv_istore_n (lv' := [(3, .int 0), (0, .ref (gR G 32)), (1, .int a1), (2, .ref (gR G a2))]) hx hb dX6_tell_31 rfl hl (by decide) rfl (fun ls hl => ?_)
  exact sLX6_tell_32 C hr _ 0 _ _ _ _ _  hd (lv_sub hl [1, 0] rfl) h
set_option maxRecDepth 20000 in
theorem ccX6_tell (l : Launch) (G : Gt) {a1 : Int32} {a2 : Nat} {S : St} {res : (Int32 × St)} (k2 : kd a2 = 8) (h : fX6_tell a1 a2 S = some res) : Met l yX6_tell (wm yX6_tell cX6_tell 4 (some .int)) (rmL 11 0 0) (PcW G S [.ref (gR G 32), .int a1, .ref (gR G a2)]) (QI G res.1 res.2) 0 0 (Ab G) := by
  refine Met.ofW (cc := cX6_tell) (maxL := 4) (ret := (some .int)) (by decide) rfl ?_
  intro p e s m args below meth c s₁ B hml hv
  obtain ⟨rfl, hK, hP⟩ := hv
  have C : Cx p s m _ meth c cX6_tell 4 RX6 G := ⟨⟨B.exec, B.bytes, hml, findClass_of_methodNamed B.named, fun w hw => atoms_spec (ws := wm yX6_tell cX6_tell 4 (some .int)) B.pre w (List.mem_cons_of_mem _ hw)⟩, B.notSynchronized, hK⟩
  have hl := lv_entry ([.ref (gR G 32), .int a1, .ref (gR G a2)]) (n := 4) (Nat.le_of_ble_eq_true rfl)
  rw [lg_entry_eq]
  generalize (lg_sl ([.ref (gR G 32), .int a1, .ref (gR G a2)]) ++ List.replicate (4 - (lg_sl ([.ref (gR G 32), .int a1, .ref (gR G a2)])).length) Slot.unset).toArray = ls at hl ⊢
  exact sfX6_tell C B.returns k2 ⟨hP, va_S.rf⟩ hl h
end T25
