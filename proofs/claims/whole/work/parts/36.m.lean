section T36
variable {p : Program} {l : Launch} {e : Env} {s : State} {m : MethodId} {args : Array Value} {below : List Frame} {meth : Method} {c : Code} {G : Gt}
def BX10_readLine_188 (l1 : Int32) (l2 : Int32) (S : St) : Option (Int32 × St) :=
  bv (fX10_mark 59 S) fun S => ri (l1 ||| l2) S
set_option maxHeartbeats 4000000 in
set_option maxRecDepth 20000 in
theorem sBX10_readLine_188 (C : Cx p s m args meth c cX10_readLine 3 RX10 G) (hr : meth.sig.returnType = some .int) {l1 : Int32} {l2 : Int32} {S : St} {res : (Int32 × St)} {H : Heap} {locs : List Loc} {ls : Array Slot}  (hd : Dy G S s H locs) (hl : lv_has ls 3 [(0, .ref (gR G 142)), (1, .int l1), (2, .int l2)]) (h : BX10_readLine_188 l1 l2 S = some res) : W p l e (rmL 137 0 0) s m args below meth c H locs 0 0 (MQ below (QI G res.1 res.2) args s 0 0 (Ab G)) (F0 m 188 ls []) := by
  unfold BX10_readLine_188 at h
  have hx := C.1.1
  have hb := C.1.2.1
  refine lv_aload_n hx hb dX10_readLine_188 rfl (lv_at hl 0 rfl) ?_
  refine lv_bipush (v := 59) hx hb dX10_readLine_189 (by decide) ?_
  obtain ⟨S1, hc, h⟩ := bv_some h
  refine R_cVv C hd (ccX10_mark l G  hc) kX10_264 rfl (by decide) (rfl : kd 142 = 10) hl.1 ⟨by decide, by decide⟩ rfl rfl (Nat.le_of_ble_eq_true rfl) dX10_readLine_191 ⟨Nat.zero_le _, Nat.zero_le _⟩ (fun H locs hd => ?_)
  generalize S1 = S at h hd
  refine lv_iload_n hx hb dX10_readLine_194 rfl (lv_at hl 1 rfl) ?_
  refine lv_iload_n hx hb dX10_readLine_195 rfl (lv_at hl 2 rfl) ?_
  refine lv_ior hx hb dX10_readLine_196 ?_
  exact R_iret C hr hd h dX10_readLine_197
def BX10_readLine_89 (l1 : Int32) (l2 : Int32) (s1 : Nat) (S : St) : Option (Int32 × St) :=
  pf S 142 2 (nI s1) fun S => bv (fX10_readExpression 8 0 S) fun S => (BX10_readLine_188 l1 l2 S)
set_option maxHeartbeats 4000000 in
set_option maxRecDepth 20000 in
theorem sBX10_readLine_89 (C : Cx p s m args meth c cX10_readLine 3 RX10 G) (hr : meth.sig.returnType = some .int) {l1 : Int32} {l2 : Int32} {s1 : Nat} {S : St} {res : (Int32 × St)} {H : Heap} {locs : List Loc} {ls : Array Slot} (ks1 : kd s1 = 23) (hd : Dy G S s H locs) (hl : lv_has ls 3 [(0, .ref (gR G 142)), (1, .int l1), (2, .int l2)]) (h : BX10_readLine_89 l1 l2 s1 S = some res) : W p l e (rmL 137 0 0) s m args below meth c H locs 0 0 (MQ below (QI G res.1 res.2) args s 0 0 (Ab G)) (F0 m 89 ls [.ref (gR G s1), .ref (gR G 142)]) := by
  unfold BX10_readLine_89 at h
  have hx := C.1.1
  have hb := C.1.2.1
  refine pX10_36 C hd (rfl : kd 142 = 10) ks1 h dX10_readLine_89 (fun S H locs hd h => ?_)
  refine lv_aload_n hx hb dX10_readLine_92 rfl (lv_at hl 0 rfl) ?_
  refine lv_iconst (v := 0) hx hb dX10_readLine_93 (by decide) ?_
  obtain ⟨S1, hc, h⟩ := bv_some h
  refine R_cVv C hd (ccX10_readExpression l G 8 hc) kX10_267 rfl (by decide) (rfl : kd 142 = 10) hl.1 ⟨by decide, by decide⟩ rfl rfl (Nat.le_of_ble_eq_true rfl) dX10_readLine_94 ⟨Nat.zero_le _, Nat.zero_le _⟩ (fun H locs hd => ?_)
  generalize S1 = S at h hd
  refine lv_goto (tgt := 188) hx hb dX10_readLine_97 (by decide) ?_
  exact sBX10_readLine_188 C hr  hd (lv_sub hl [0, 1, 2] rfl) h
def BX10_readLine_67 (l1 : Int32) (l2 : Int32) (s1 : Int32) (S : St) : Option (Int32 × St) :=
  pz S 142 27 s1 fun S => (if (S 142 27) = 0 then (BX10_readLine_89 l1 l2 143 S) else (BX10_readLine_89 l1 l2 144 S))
set_option maxHeartbeats 4000000 in
set_option maxRecDepth 20000 in
theorem sBX10_readLine_67 (C : Cx p s m args meth c cX10_readLine 3 RX10 G) (hr : meth.sig.returnType = some .int) {l1 : Int32} {l2 : Int32} {s1 : Int32} {S : St} {res : (Int32 × St)} {H : Heap} {locs : List Loc} {ls : Array Slot}  (hd : Dy G S s H locs) (hl : lv_has ls 3 [(0, .ref (gR G 142)), (1, .int l1), (2, .int l2)]) (h : BX10_readLine_67 l1 l2 s1 S = some res) : W p l e (rmL 137 0 0) s m args below meth c H locs 0 0 (MQ below (QI G res.1 res.2) args s 0 0 (Ab G)) (F0 m 67 ls [.int s1, .ref (gR G 142)]) := by
  unfold BX10_readLine_67 at h
  have hx := C.1.1
  have hb := C.1.2.1
  refine pX10_250 C hd (rfl : kd 142 = 10) h dX10_readLine_67 (fun S H locs hd h => ?_)
  refine lv_aload_n hx hb dX10_readLine_70 rfl (lv_at hl 0 rfl) ?_
  refine lv_aload_n hx hb dX10_readLine_71 rfl (lv_at hl 0 rfl) ?_
  refine gX10_250 C hd (rfl : kd 142 = 10) dX10_readLine_72 ?_
  refine lv_if_eq (tgt := 85) hx hb dX10_readLine_75 (by decide) (fun c1 => ?_) (fun c1 => ?_)
  · rw [if_pos c1] at h
    refine lv_aload_n hx hb dX10_readLine_85 rfl (lv_at hl 0 rfl) ?_
    refine gX10_21 C hd (rfl : kd 142 = 10) (q := 143) rfl dX10_readLine_86 (fun y2 => ?_)
    exact sBX10_readLine_89 C hr y2 hd (lv_sub hl [0, 1, 2] rfl) h
  · rw [if_neg c1] at h
    refine lv_aload_n hx hb dX10_readLine_78 rfl (lv_at hl 0 rfl) ?_
    refine gX10_33 C hd (rfl : kd 142 = 10) (q := 144) rfl dX10_readLine_79 (fun y3 => ?_)
    refine lv_goto (tgt := 89) hx hb dX10_readLine_82 (by decide) ?_
    exact sBX10_readLine_89 C hr y3 hd (lv_sub hl [0, 1, 2] rfl) h
def BX10_readLine_56 (l1 : Int32) (l2 : Int32) (S : St) : Option (Int32 × St) :=
  (if l2 = 2 then (BX10_readLine_67 l1 l2 1 S) else (BX10_readLine_67 l1 l2 0 S))
set_option maxHeartbeats 4000000 in
set_option maxRecDepth 20000 in
theorem sBX10_readLine_56 (C : Cx p s m args meth c cX10_readLine 3 RX10 G) (hr : meth.sig.returnType = some .int) {l1 : Int32} {l2 : Int32} {S : St} {res : (Int32 × St)} {H : Heap} {locs : List Loc} {ls : Array Slot}  (hd : Dy G S s H locs) (hl : lv_has ls 3 [(0, .ref (gR G 142)), (1, .int l1), (2, .int l2)]) (h : BX10_readLine_56 l1 l2 S = some res) : W p l e (rmL 137 0 0) s m args below meth c H locs 0 0 (MQ below (QI G res.1 res.2) args s 0 0 (Ab G)) (F0 m 56 ls []) := by
  unfold BX10_readLine_56 at h
  have hx := C.1.1
  have hb := C.1.2.1
  refine lv_aload_n hx hb dX10_readLine_56 rfl (lv_at hl 0 rfl) ?_
  refine lv_iload_n hx hb dX10_readLine_57 rfl (lv_at hl 2 rfl) ?_
  refine lv_iconst (v := 2) hx hb dX10_readLine_58 (by decide) ?_
  refine lv_icmp_ne (tgt := 66) hx hb dX10_readLine_59 (by decide) (fun c1 => ?_) (fun c1 => ?_)
  · rw [if_neg c1] at h
    refine lv_iconst (v := 0) hx hb dX10_readLine_66 (by decide) ?_
    exact sBX10_readLine_67 C hr  hd (lv_sub hl [0, 1, 2] rfl) h
  · rw [if_pos c1] at h
    refine lv_iconst (v := 1) hx hb dX10_readLine_62 (by decide) ?_
    refine lv_goto (tgt := 67) hx hb dX10_readLine_63 (by decide) ?_
    exact sBX10_readLine_67 C hr  hd (lv_sub hl [0, 1, 2] rfl) h
def BX10_readLine_41 (l1 : Int32) (l2 : Int32) (S : St) : Option (Int32 × St) :=
  (if l2 ≤ 0 then bd (fX10_is 1 S) fun x2 S => (if x2 = 0 then bd (fX10_is 2 S) fun x4 S => (if x4 = 0 then bd (fX10_is 3 S) fun x6 S => (if x6 = 0 then bd (fX10_is 4 S) fun x8 S => (if x8 = 0 then bd (fX10_is 5 S) fun x10 S => (if x10 = 0 then bv (fX10_wrong 1 S) fun S => (BX10_readLine_188 l1 l2 S) else bv (fX10_sayOwns  S) fun S => (BX10_readLine_188 l1 l2 S)) else bv (fX10_sayKnows  S) fun S => (BX10_readLine_188 l1 l2 S)) else bv (fX10_saySinger  S) fun S => (BX10_readLine_188 l1 l2 S)) else bv (fX10_sayPath  S) fun S => (BX10_readLine_188 l1 l2 S)) else bv (fX10_sayField  S) fun S => (BX10_readLine_188 l1 l2 S)) else (if (S 142 24) = 0 then bv (fX10_stepOn  S) fun S => (BX10_readLine_56 l1 l2 S) else (BX10_readLine_56 l1 l2 S)))
set_option maxHeartbeats 4000000 in
set_option maxRecDepth 20000 in
theorem sBX10_readLine_41 (C : Cx p s m args meth c cX10_readLine 3 RX10 G) (hr : meth.sig.returnType = some .int) {l1 : Int32} {l2 : Int32} {S : St} {res : (Int32 × St)} {H : Heap} {locs : List Loc} {ls : Array Slot}  (hd : Dy G S s H locs) (hl : lv_has ls 3 [(0, .ref (gR G 142)), (1, .int l1), (2, .int l2)]) (h : BX10_readLine_41 l1 l2 S = some res) : W p l e (rmL 137 0 0) s m args below meth c H locs 0 0 (MQ below (QI G res.1 res.2) args s 0 0 (Ab G)) (F0 m 41 ls []) := by
  unfold BX10_readLine_41 at h
  have hx := C.1.1
  have hb := C.1.2.1
  refine lv_iload_n hx hb dX10_readLine_41 rfl (lv_at hl 2 rfl) ?_
  refine lv_if_le (tgt := 100) hx hb dX10_readLine_42 (by decide) (fun c1 => ?_) (fun c1 => ?_)
  · rw [if_pos c1] at h
    refine lv_aload_n hx hb dX10_readLine_100 rfl (lv_at hl 0 rfl) ?_
    refine va_ldcS hx hb C.1.2.2.2.1 (C.2.2.2.2.1 ("SongFieldsModel", 15, "field", 1) (List.mem_of_getElem? (i := 33) rfl)) dX10_readLine_101 ?_
    obtain ⟨x2, S1, hc, h⟩ := bd_some h
    refine R_cVi C hd (ccX10_is l G  hc) kX10_230 rfl (by decide) (rfl : kd 142 = 10) hl.1 ⟨by decide, by decide⟩ rfl rfl (Nat.le_of_ble_eq_true rfl) dX10_readLine_103 ⟨Nat.zero_le _, Nat.zero_le _⟩ (fun H locs hd => ?_)
    generalize S1 = S at h hd
    refine lv_if_eq (tgt := 116) hx hb dX10_readLine_106 (by decide) (fun c3 => ?_) (fun c3 => ?_)
    · rw [if_pos c3] at h
      refine lv_aload_n hx hb dX10_readLine_116 rfl (lv_at hl 0 rfl) ?_
      refine R_ldcSW hx hb C.1.2.2.2.1 (C.2.2.2.2.1 ("SongFieldsModel", 308, "path", 2) (List.mem_of_getElem? (i := 45) rfl)) dX10_readLine_117 ?_
      obtain ⟨x4, S1, hc, h⟩ := bd_some h
      refine R_cVi C hd (ccX10_is l G  hc) kX10_230 rfl (by decide) (rfl : kd 142 = 10) hl.1 ⟨by decide, by decide⟩ rfl rfl (Nat.le_of_ble_eq_true rfl) dX10_readLine_120 ⟨Nat.zero_le _, Nat.zero_le _⟩ (fun H locs hd => ?_)
      generalize S1 = S at h hd
      refine lv_if_eq (tgt := 133) hx hb dX10_readLine_123 (by decide) (fun c5 => ?_) (fun c5 => ?_)
      · rw [if_pos c5] at h
        refine lv_aload_n hx hb dX10_readLine_133 rfl (lv_at hl 0 rfl) ?_
        refine va_ldcS hx hb C.1.2.2.2.1 (C.2.2.2.2.1 ("SongFieldsModel", 13, "singer", 3) (List.mem_of_getElem? (i := 32) rfl)) dX10_readLine_134 ?_
        obtain ⟨x6, S1, hc, h⟩ := bd_some h
        refine R_cVi C hd (ccX10_is l G  hc) kX10_230 rfl (by decide) (rfl : kd 142 = 10) hl.1 ⟨by decide, by decide⟩ rfl rfl (Nat.le_of_ble_eq_true rfl) dX10_readLine_136 ⟨Nat.zero_le _, Nat.zero_le _⟩ (fun H locs hd => ?_)
        generalize S1 = S at h hd
        refine lv_if_eq (tgt := 149) hx hb dX10_readLine_139 (by decide) (fun c7 => ?_) (fun c7 => ?_)
        · rw [if_pos c7] at h
          refine lv_aload_n hx hb dX10_readLine_149 rfl (lv_at hl 0 rfl) ?_
          refine R_ldcSW hx hb C.1.2.2.2.1 (C.2.2.2.2.1 ("SongFieldsModel", 315, "knows", 4) (List.mem_of_getElem? (i := 46) rfl)) dX10_readLine_150 ?_
          obtain ⟨x8, S1, hc, h⟩ := bd_some h
          refine R_cVi C hd (ccX10_is l G  hc) kX10_230 rfl (by decide) (rfl : kd 142 = 10) hl.1 ⟨by decide, by decide⟩ rfl rfl (Nat.le_of_ble_eq_true rfl) dX10_readLine_153 ⟨Nat.zero_le _, Nat.zero_le _⟩ (fun H locs hd => ?_)
          generalize S1 = S at h hd
          refine lv_if_eq (tgt := 166) hx hb dX10_readLine_156 (by decide) (fun c9 => ?_) (fun c9 => ?_)
          · rw [if_pos c9] at h
            refine lv_aload_n hx hb dX10_readLine_166 rfl (lv_at hl 0 rfl) ?_
            refine R_ldcSW hx hb C.1.2.2.2.1 (C.2.2.2.2.1 ("SongFieldsModel", 320, "owns", 5) (List.mem_of_getElem? (i := 47) rfl)) dX10_readLine_167 ?_
            obtain ⟨x10, S1, hc, h⟩ := bd_some h
            refine R_cVi C hd (ccX10_is l G  hc) kX10_230 rfl (by decide) (rfl : kd 142 = 10) hl.1 ⟨by decide, by decide⟩ rfl rfl (Nat.le_of_ble_eq_true rfl) dX10_readLine_170 ⟨Nat.zero_le _, Nat.zero_le _⟩ (fun H locs hd => ?_)
            generalize S1 = S at h hd
            refine lv_if_eq (tgt := 183) hx hb dX10_readLine_173 (by decide) (fun c11 => ?_) (fun c11 => ?_)
            · rw [if_pos c11] at h
              refine lv_aload_n hx hb dX10_readLine_183 rfl (lv_at hl 0 rfl) ?_
              refine lv_iconst (v := 1) hx hb dX10_readLine_184 (by decide) ?_
              obtain ⟨S1, hc, h⟩ := bv_some h
              refine R_cVv C hd (ccX10_wrong l G  hc) kX10_237 rfl (by decide) (rfl : kd 142 = 10) hl.1 ⟨by decide, by decide⟩ rfl rfl (Nat.le_of_ble_eq_true rfl) dX10_readLine_185 ⟨Nat.zero_le _, Nat.zero_le _⟩ (fun H locs hd => ?_)
              generalize S1 = S at h hd
              exact sBX10_readLine_188 C hr  hd (lv_sub hl [0, 1, 2] rfl) h
            · rw [if_neg c11] at h
              refine lv_aload_n hx hb dX10_readLine_176 rfl (lv_at hl 0 rfl) ?_
              obtain ⟨S1, hc, h⟩ := bv_some h
              refine R_cVv C hd (ccX10_sayOwns l G  hc) kX10_322 rfl (by decide) (rfl : kd 142 = 10) hl.1 ⟨by decide, by decide⟩ rfl rfl (Nat.le_of_ble_eq_true rfl) dX10_readLine_177 ⟨Nat.zero_le _, Nat.zero_le _⟩ (fun H locs hd => ?_)
              generalize S1 = S at h hd
              refine lv_goto (tgt := 188) hx hb dX10_readLine_180 (by decide) ?_
              exact sBX10_readLine_188 C hr  hd (lv_sub hl [0, 1, 2] rfl) h
          · rw [if_neg c9] at h
            refine lv_aload_n hx hb dX10_readLine_159 rfl (lv_at hl 0 rfl) ?_
            obtain ⟨S1, hc, h⟩ := bv_some h
            refine R_cVv C hd (ccX10_sayKnows l G  hc) kX10_317 rfl (by decide) (rfl : kd 142 = 10) hl.1 ⟨by decide, by decide⟩ rfl rfl (Nat.le_of_ble_eq_true rfl) dX10_readLine_160 ⟨Nat.zero_le _, Nat.zero_le _⟩ (fun H locs hd => ?_)
            generalize S1 = S at h hd
            refine lv_goto (tgt := 188) hx hb dX10_readLine_163 (by decide) ?_
            exact sBX10_readLine_188 C hr  hd (lv_sub hl [0, 1, 2] rfl) h
        · rw [if_neg c7] at h
          refine lv_aload_n hx hb dX10_readLine_142 rfl (lv_at hl 0 rfl) ?_
          obtain ⟨S1, hc, h⟩ := bv_some h
          refine R_cVv C hd (ccX10_saySinger l G  hc) kX10_312 rfl (by decide) (rfl : kd 142 = 10) hl.1 ⟨by decide, by decide⟩ rfl rfl (Nat.le_of_ble_eq_true rfl) dX10_readLine_143 ⟨Nat.zero_le _, Nat.zero_le _⟩ (fun H locs hd => ?_)
          generalize S1 = S at h hd
          refine lv_goto (tgt := 188) hx hb dX10_readLine_146 (by decide) ?_
          exact sBX10_readLine_188 C hr  hd (lv_sub hl [0, 1, 2] rfl) h
      · rw [if_neg c5] at h
        refine lv_aload_n hx hb dX10_readLine_126 rfl (lv_at hl 0 rfl) ?_
        obtain ⟨S1, hc, h⟩ := bv_some h
        refine R_cVv C hd (ccX10_sayPath l G  hc) kX10_309 rfl (by decide) (rfl : kd 142 = 10) hl.1 ⟨by decide, by decide⟩ rfl rfl (Nat.le_of_ble_eq_true rfl) dX10_readLine_127 ⟨Nat.zero_le _, Nat.zero_le _⟩ (fun H locs hd => ?_)
        generalize S1 = S at h hd
        refine lv_goto (tgt := 188) hx hb dX10_readLine_130 (by decide) ?_
        exact sBX10_readLine_188 C hr  hd (lv_sub hl [0, 1, 2] rfl) h
    · rw [if_neg c3] at h
      refine lv_aload_n hx hb dX10_readLine_109 rfl (lv_at hl 0 rfl) ?_
      obtain ⟨S1, hc, h⟩ := bv_some h
      refine R_cVv C hd (ccX10_sayField l G  hc) kX10_305 rfl (by decide) (rfl : kd 142 = 10) hl.1 ⟨by decide, by decide⟩ rfl rfl (Nat.le_of_ble_eq_true rfl) dX10_readLine_110 ⟨Nat.zero_le _, Nat.zero_le _⟩ (fun H locs hd => ?_)
      generalize S1 = S at h hd
      refine lv_goto (tgt := 188) hx hb dX10_readLine_113 (by decide) ?_
      exact sBX10_readLine_188 C hr  hd (lv_sub hl [0, 1, 2] rfl) h
  · rw [if_neg c1] at h
    refine lv_aload_n hx hb dX10_readLine_45 rfl (lv_at hl 0 rfl) ?_
    refine gX10_216 C hd (rfl : kd 142 = 10) dX10_readLine_46 ?_
    refine lv_if_ne (tgt := 56) hx hb dX10_readLine_49 (by decide) (fun c12 => ?_) (fun c12 => ?_)
    · rw [if_neg c12] at h
      exact sBX10_readLine_56 C hr  hd (lv_sub hl [0, 1, 2] rfl) h
    · rw [if_pos c12] at h
      refine lv_aload_n hx hb dX10_readLine_52 rfl (lv_at hl 0 rfl) ?_
      obtain ⟨S1, hc, h⟩ := bv_some h
      refine R_cVv C hd (ccX10_stepOn l G  hc) kX10_241 rfl (by decide) (rfl : kd 142 = 10) hl.1 ⟨by decide, by decide⟩ rfl rfl (Nat.le_of_ble_eq_true rfl) dX10_readLine_53 ⟨Nat.zero_le _, Nat.zero_le _⟩ (fun H locs hd => ?_)
      generalize S1 = S at h hd
      exact sBX10_readLine_56 C hr  hd (lv_sub hl [0, 1, 2] rfl) h
def BX10_readLine_29 (l1 : Int32) (s0 : Int32) (S : St) : Option (Int32 × St) :=
  (if (s0 &&& l1) = 0 then (BX10_readLine_41 l1 s0 S) else bv (fX10_wrong 5 S) fun S => (BX10_readLine_41 l1 s0 S))
set_option maxHeartbeats 4000000 in
set_option maxRecDepth 20000 in
theorem sBX10_readLine_29 (C : Cx p s m args meth c cX10_readLine 3 RX10 G) (hr : meth.sig.returnType = some .int) {l1 : Int32} {s0 : Int32} {S : St} {res : (Int32 × St)} {H : Heap} {locs : List Loc} {ls : Array Slot}  (hd : Dy G S s H locs) (hl : lv_has ls 3 [(0, .ref (gR G 142)), (1, .int l1)]) (h : BX10_readLine_29 l1 s0 S = some res) : W p l e (rmL 137 0 0) s m args below meth c H locs 0 0 (MQ below (QI G res.1 res.2) args s 0 0 (Ab G)) (F0 m 29 ls [.int s0]) := by
  unfold BX10_readLine_29 at h
  have hx := C.1.1
  have hb := C.1.2.1
  refine lv_istore_n (lv' := [(2, .int s0), (0, .ref (gR G 142)), (1, .int l1)]) hx hb dX10_readLine_29 rfl hl (by decide) rfl (fun ls hl => ?_)
  refine lv_iload_n hx hb dX10_readLine_30 rfl (lv_at hl 0 rfl) ?_
  refine lv_iload_n hx hb dX10_readLine_31 rfl (lv_at hl 2 rfl) ?_
  refine lv_iand hx hb dX10_readLine_32 ?_
  refine lv_if_eq (tgt := 41) hx hb dX10_readLine_33 (by decide) (fun c1 => ?_) (fun c1 => ?_)
  · rw [if_pos c1] at h
    exact sBX10_readLine_41 C hr  hd (lv_sub hl [1, 2, 0] rfl) h
  · rw [if_neg c1] at h
    refine lv_aload_n hx hb dX10_readLine_36 rfl (lv_at hl 1 rfl) ?_
    refine lv_iconst (v := 5) hx hb dX10_readLine_37 (by decide) ?_
    obtain ⟨S1, hc, h⟩ := bv_some h
    refine R_cVv C hd (ccX10_wrong l G  hc) kX10_237 rfl (by decide) (rfl : kd 142 = 10) hl.1 ⟨by decide, by decide⟩ rfl rfl (Nat.le_of_ble_eq_true rfl) dX10_readLine_38 ⟨Nat.zero_le _, Nat.zero_le _⟩ (fun H locs hd => ?_)
    generalize S1 = S at h hd
    exact sBX10_readLine_41 C hr  hd (lv_sub hl [1, 2, 0] rfl) h
def fX10_readLine (a1 : Int32) (S : St) : Option (Int32 × St) :=
  bd (fX10_is 6 S) fun x1 S => (if x1 = 0 then bd (fX10_is 17 S) fun x3 S => (if x3 = 0 then (BX10_readLine_29 a1 0 S) else (BX10_readLine_29 a1 2 S)) else (BX10_readLine_29 a1 1 S))
set_option maxHeartbeats 4000000 in
set_option maxRecDepth 20000 in
theorem sfX10_readLine (C : Cx p s m args meth c cX10_readLine 3 RX10 G) (hr : meth.sig.returnType = some .int) {a1 : Int32} {S : St} {res : (Int32 × St)} {H : Heap} {locs : List Loc} {ls : Array Slot}  (hd : Dy G S s H locs) (hl : lv_has ls 3 [(0, .ref (gR G 142)), (1, .int a1)]) (h : fX10_readLine a1 S = some res) : W p l e (rmL 137 0 0) s m args below meth c H locs 0 0 (MQ below (QI G res.1 res.2) args s 0 0 (Ab G)) (F0 m 0 ls []) := by
  unfold fX10_readLine at h
  have hx := C.1.1
  have hb := C.1.2.1
  refine lv_aload_n hx hb dX10_readLine_0 rfl (lv_at hl 0 rfl) ?_
  refine R_ldcSW hx hb C.1.2.2.2.1 (C.2.2.2.2.1 ("SongFieldsModel", 301, "sings", 6) (List.mem_of_getElem? (i := 40) rfl)) dX10_readLine_1 ?_
  obtain ⟨x1, S1, hc, h⟩ := bd_some h
  refine R_cVi C hd (ccX10_is l G  hc) kX10_230 rfl (by decide) (rfl : kd 142 = 10) hl.1 ⟨by decide, by decide⟩ rfl rfl (Nat.le_of_ble_eq_true rfl) dX10_readLine_4 ⟨Nat.zero_le _, Nat.zero_le _⟩ (fun H locs hd => ?_)
  generalize S1 = S at h hd
  refine lv_if_eq (tgt := 14) hx hb dX10_readLine_7 (by decide) (fun c2 => ?_) (fun c2 => ?_)
  · rw [if_pos c2] at h
    refine lv_aload_n hx hb dX10_readLine_14 rfl (lv_at hl 0 rfl) ?_
    refine R_ldcSW hx hb C.1.2.2.2.1 (C.2.2.2.2.1 ("SongFieldsModel", 303, "fines", 17) (List.mem_of_getElem? (i := 41) rfl)) dX10_readLine_15 ?_
    obtain ⟨x3, S1, hc, h⟩ := bd_some h
    refine R_cVi C hd (ccX10_is l G  hc) kX10_230 rfl (by decide) (rfl : kd 142 = 10) hl.1 ⟨by decide, by decide⟩ rfl rfl (Nat.le_of_ble_eq_true rfl) dX10_readLine_18 ⟨Nat.zero_le _, Nat.zero_le _⟩ (fun H locs hd => ?_)
    generalize S1 = S at h hd
    refine lv_if_eq (tgt := 28) hx hb dX10_readLine_21 (by decide) (fun c4 => ?_) (fun c4 => ?_)
    · rw [if_pos c4] at h
      refine lv_iconst (v := 0) hx hb dX10_readLine_28 (by decide) ?_
      exact sBX10_readLine_29 C hr  hd (lv_sub hl [0, 1] rfl) h
    · rw [if_neg c4] at h
      refine lv_iconst (v := 2) hx hb dX10_readLine_24 (by decide) ?_
      refine lv_goto (tgt := 29) hx hb dX10_readLine_25 (by decide) ?_
      exact sBX10_readLine_29 C hr  hd (lv_sub hl [0, 1] rfl) h
  · rw [if_neg c2] at h
    refine lv_iconst (v := 1) hx hb dX10_readLine_10 (by decide) ?_
    refine lv_goto (tgt := 29) hx hb dX10_readLine_11 (by decide) ?_
    exact sBX10_readLine_29 C hr  hd (lv_sub hl [0, 1] rfl) h
set_option maxRecDepth 20000 in
theorem ccX10_readLine (l : Launch) (G : Gt) {a1 : Int32} {S : St} {res : (Int32 × St)}  (h : fX10_readLine a1 S = some res) : Met l yX10_readLine (wm yX10_readLine cX10_readLine 3 (some .int)) (rmL 137 0 0) (PcW G S [.ref (gR G 142), .int a1]) (QI G res.1 res.2) 0 0 (Ab G) := by
  refine Met.ofW (cc := cX10_readLine) (maxL := 3) (ret := (some .int)) (by decide) rfl ?_
  intro p e s m args below meth c s₁ B hml hv
  obtain ⟨rfl, hK, hP⟩ := hv
  have C : Cx p s m _ meth c cX10_readLine 3 RX10 G := ⟨⟨B.exec, B.bytes, hml, findClass_of_methodNamed B.named, fun w hw => atoms_spec (ws := wm yX10_readLine cX10_readLine 3 (some .int)) B.pre w (List.mem_cons_of_mem _ hw)⟩, B.notSynchronized, hK⟩
  have hl := lv_entry ([.ref (gR G 142), .int a1]) (n := 3) (Nat.le_of_ble_eq_true rfl)
  rw [lg_entry_eq]
  generalize (lg_sl ([.ref (gR G 142), .int a1]) ++ List.replicate (3 - (lg_sl ([.ref (gR G 142), .int a1])).length) Slot.unset).toArray = ls at hl ⊢
  exact sfX10_readLine C B.returns  ⟨hP, va_S.rf⟩ hl h
def BX10_valley_17  (S : St) : Option (Int32 × St) :=
  bd (fX10_fail 1 S) fun x1 S => ri x1 S
set_option maxHeartbeats 4000000 in
set_option maxRecDepth 20000 in
theorem sBX10_valley_17 (C : Cx p s m args meth c cX10_valley 3 RX10 G) (hr : meth.sig.returnType = some .int)  {S : St} {res : (Int32 × St)} {H : Heap} {locs : List Loc} {ls : Array Slot}  (hd : Dy G S s H locs) (hl : lv_has ls 3 [(0, .ref (gR G 142))]) (h : BX10_valley_17  S = some res) : W p l e (rmL 138 0 0) s m args below meth c H locs 0 0 (MQ below (QI G res.1 res.2) args s 0 0 (Ab G)) (F0 m 17 ls []) := by
  unfold BX10_valley_17 at h
  have hx := C.1.1
  have hb := C.1.2.1
  refine lv_aload_n hx hb dX10_valley_17 rfl (lv_at hl 0 rfl) ?_
  refine lv_iconst (v := 1) hx hb dX10_valley_18 (by decide) ?_
  obtain ⟨x1, S1, hc, h⟩ := bd_some h
  refine R_cVi C hd (ccX10_fail l G  hc) kX10_325 rfl (by decide) (rfl : kd 142 = 10) hl.1 ⟨by decide, by decide⟩ rfl rfl (Nat.le_of_ble_eq_true rfl) dX10_valley_19 ⟨Nat.zero_le _, Nat.zero_le _⟩ (fun H locs hd => ?_)
  generalize S1 = S at h hd
  exact R_iret C hr hd h dX10_valley_22
def BX10_valley_123  (S : St) : Option (Int32 × St) :=
  (if (S 142 24) = 0 then bv (fX10_takeOver  S) fun S => ri 0 S else pf S 142 26 (S 142 25) fun S => rd S 156 0 fun x3 => wr S 156 0 (x3 + 1) fun S => ri (S 142 24) S)
set_option maxHeartbeats 4000000 in
set_option maxRecDepth 20000 in
theorem sBX10_valley_123 (C : Cx p s m args meth c cX10_valley 3 RX10 G) (hr : meth.sig.returnType = some .int)  {S : St} {res : (Int32 × St)} {H : Heap} {locs : List Loc} {ls : Array Slot}  (hd : Dy G S s H locs) (hl : lv_has ls 3 [(0, .ref (gR G 142))]) (h : BX10_valley_123  S = some res) : W p l e (rmL 138 0 0) s m args below meth c H locs 0 0 (MQ below (QI G res.1 res.2) args s 0 0 (Ab G)) (F0 m 123 ls []) := by
  unfold BX10_valley_123 at h
  have hx := C.1.1
  have hb := C.1.2.1
  refine lv_aload_n hx hb dX10_valley_123 rfl (lv_at hl 0 rfl) ?_
  refine gX10_216 C hd (rfl : kd 142 = 10) dX10_valley_124 ?_
  refine lv_if_eq (tgt := 153) hx hb dX10_valley_127 (by decide) (fun c1 => ?_) (fun c1 => ?_)
  · rw [if_pos c1] at h
    refine lv_aload_n hx hb dX10_valley_153 rfl (lv_at hl 0 rfl) ?_
    obtain ⟨S1, hc, h⟩ := bv_some h
    refine R_cVv C hd (ccX10_takeOver l G  hc) kX10_331 rfl (by decide) (rfl : kd 142 = 10) hl.1 ⟨by decide, by decide⟩ rfl rfl (Nat.le_of_ble_eq_true rfl) dX10_valley_154 ⟨Nat.zero_le _, Nat.zero_le _⟩ (fun H locs hd => ?_)
    generalize S1 = S at h hd
    refine lv_iconst (v := 0) hx hb dX10_valley_157 (by decide) ?_
    exact R_iret C hr hd h dX10_valley_158
  · rw [if_neg c1] at h
    refine lv_aload_n hx hb dX10_valley_130 rfl (lv_at hl 0 rfl) ?_
    refine lv_aload_n hx hb dX10_valley_131 rfl (lv_at hl 0 rfl) ?_
    refine gX10_219 C hd (rfl : kd 142 = 10) dX10_valley_132 ?_
    refine pX10_77 C hd (rfl : kd 142 = 10) h dX10_valley_135 (fun S H locs hd h => ?_)
    refine lv_aload_n hx hb dX10_valley_138 rfl (lv_at hl 0 rfl) ?_
    refine gX10_71 C hd (rfl : kd 142 = 10) (q := 156) rfl dX10_valley_139 (fun y2 => ?_)
    refine lv_iconst (v := 0) hx hb dX10_valley_142 (by decide) ?_
    refine lv_dup2_11 hx hb dX10_valley_143 rfl rfl ?_
    refine R_iald C hd y2 h dX10_valley_144 (fun x3 h => ?_)
    refine lv_iconst (v := 1) hx hb dX10_valley_145 (by decide) ?_
    refine lv_iadd hx hb dX10_valley_146 ?_
    refine R_iast C hd y2 h dX10_valley_147 (fun S H locs hd h => ?_)
    refine lv_aload_n hx hb dX10_valley_148 rfl (lv_at hl 0 rfl) ?_
    refine gX10_216 C hd (rfl : kd 142 = 10) dX10_valley_149 ?_
    exact R_iret C hr hd h dX10_valley_152
def KX10_valley_100 (r100 : Int32 → St → Option (Int32 × St)) (l2 : Int32) (S : St) : Option (Int32 × St) :=
  (if (S 142 24) = 0 then (if (S 142 20) = 0 then (BX10_valley_123  S) else bd (fX10_readLine l2 S) fun x3 S => (r100 x3 S)) else (BX10_valley_123  S))
set_option maxHeartbeats 4000000 in
set_option maxRecDepth 20000 in
theorem sKX10_valley_100 (C : Cx p s m args meth c cX10_valley 3 RX10 G) (hr : meth.sig.returnType = some .int) {r100 : Int32 → St → Option (Int32 × St)} (hr100 : ∀ (l2 : Int32) (S : St) (res : (Int32 × St)) (H : Heap) (locs : List Loc) (ls : Array Slot), Dy G S s H locs → lv_has ls 3 [(0, .ref (gR G 142)), (2, .int l2)] → r100 l2 S = some res → W p l e (rmL 138 0 0) s m args below meth c H locs 0 0 (MQ below (QI G res.1 res.2) args s 0 0 (Ab G)) (F0 m 100 ls [])) {l2 : Int32} {S : St} {res : (Int32 × St)} {H : Heap} {locs : List Loc} {ls : Array Slot}  (hd : Dy G S s H locs) (hl : lv_has ls 3 [(0, .ref (gR G 142)), (2, .int l2)]) (h : KX10_valley_100 r100 l2 S = some res) : W p l e (rmL 138 0 0) s m args below meth c H locs 0 0 (MQ below (QI G res.1 res.2) args s 0 0 (Ab G)) (F0 m 100 ls []) := by
  unfold KX10_valley_100 at h
  have hx := C.1.1
  have hb := C.1.2.1
  refine lv_aload_n hx hb dX10_valley_100 rfl (lv_at hl 0 rfl) ?_
  refine gX10_216 C hd (rfl : kd 142 = 10) dX10_valley_101 ?_
  refine lv_if_ne (tgt := 123) hx hb dX10_valley_104 (by decide) (fun c1 => ?_) (fun c1 => ?_)
  · rw [if_neg c1] at h
    exact sBX10_valley_123 C hr  hd (lv_sub hl [0] rfl) h
  · rw [if_pos c1] at h
    refine lv_aload_n hx hb dX10_valley_107 rfl (lv_at hl 0 rfl) ?_
    refine gX10_190 C hd (rfl : kd 142 = 10) dX10_valley_108 ?_
    refine lv_if_eq (tgt := 123) hx hb dX10_valley_111 (by decide) (fun c2 => ?_) (fun c2 => ?_)
    · rw [if_pos c2] at h
      exact sBX10_valley_123 C hr  hd (lv_sub hl [0] rfl) h
    · rw [if_neg c2] at h
      refine lv_aload_n hx hb dX10_valley_114 rfl (lv_at hl 0 rfl) ?_
      refine lv_iload_n hx hb dX10_valley_115 rfl (lv_at hl 1 rfl) ?_
      obtain ⟨x3, S1, hc, h⟩ := bd_some h
      refine R_cVi C hd (ccX10_readLine l G  hc) kX10_328 rfl (by decide) (rfl : kd 142 = 10) hl.1 ⟨by decide, by decide⟩ rfl rfl (Nat.le_of_ble_eq_true rfl) dX10_valley_116 ⟨Nat.zero_le _, Nat.zero_le _⟩ (fun H locs hd => ?_)
      generalize S1 = S at h hd
      refine lv_istore_n (lv' := [(2, .int x3), (0, .ref (gR G 142))]) hx hb dX10_valley_119 rfl hl (by decide) rfl (fun ls hl => ?_)
      refine lv_goto (tgt := 100) hx hb dX10_valley_120 (by decide) ?_
      exact hr100 x3 _ _ _ _ _  hd (lv_sub hl [1, 0] rfl) h
def LX10_valley_100 : Nat → Int32 → St → Option (Int32 × St)
  | 0 => fun _ _ => none
  | n + 1 => fun l2 S => KX10_valley_100 (LX10_valley_100 n) l2 S
theorem sLX10_valley_100 (C : Cx p s m args meth c cX10_valley 3 RX10 G) (hr : meth.sig.returnType = some .int) : ∀ (n : Nat) (l2 : Int32) (S : St) (res : (Int32 × St)) (H : Heap) (locs : List Loc) (ls : Array Slot), Dy G S s H locs → lv_has ls 3 [(0, .ref (gR G 142)), (2, .int l2)] → LX10_valley_100 n l2 S = some res → W p l e (rmL 138 0 0) s m args below meth c H locs 0 0 (MQ below (QI G res.1 res.2) args s 0 0 (Ab G)) (F0 m 100 ls []) := by
  intro n
  induction n with
  | zero => intro l2 S res H locs ls  hd hl h; cases h
  | succ n ih =>
    intro l2 S res H locs ls  hd hl h
    exact sKX10_valley_100 C hr ih  hd hl h
def KX10_valley_72 (r72 : Int32 → St → Option (Int32 × St)) (l2 : Int32) (S : St) : Option (Int32 × St) :=
  (if 64 ≤ l2 then bv (fX10_stepOn  S) fun S => (LX10_valley_100 FU 0 S) else wr S 149 (64 + l2) 0 fun S => vl (l2 + 1) fun x3 => (r72 x3 S))
set_option maxHeartbeats 4000000 in
set_option maxRecDepth 20000 in
theorem sKX10_valley_72 (C : Cx p s m args meth c cX10_valley 3 RX10 G) (hr : meth.sig.returnType = some .int) {r72 : Int32 → St → Option (Int32 × St)} (hr72 : ∀ (l2 : Int32) (S : St) (res : (Int32 × St)) (H : Heap) (locs : List Loc) (ls : Array Slot), Dy G S s H locs → lv_has ls 3 [(0, .ref (gR G 142)), (2, .int l2)] → r72 l2 S = some res → W p l e (rmL 138 0 0) s m args below meth c H locs 0 0 (MQ below (QI G res.1 res.2) args s 0 0 (Ab G)) (F0 m 72 ls [])) {l2 : Int32} {S : St} {res : (Int32 × St)} {H : Heap} {locs : List Loc} {ls : Array Slot}  (hd : Dy G S s H locs) (hl : lv_has ls 3 [(0, .ref (gR G 142)), (2, .int l2)]) (h : KX10_valley_72 r72 l2 S = some res) : W p l e (rmL 138 0 0) s m args below meth c H locs 0 0 (MQ below (QI G res.1 res.2) args s 0 0 (Ab G)) (F0 m 72 ls []) := by
  unfold KX10_valley_72 at h
  have hx := C.1.1
  have hb := C.1.2.1
  refine lv_iload_n hx hb dX10_valley_72 rfl (lv_at hl 1 rfl) ?_
  refine lv_bipush (v := 64) hx hb dX10_valley_73 (by decide) ?_
  refine lv_icmp_ge (tgt := 94) hx hb dX10_valley_75 (by decide) (fun c1 => ?_) (fun c1 => ?_)
  · rw [if_pos c1] at h
    refine lv_aload_n hx hb dX10_valley_94 rfl (lv_at hl 0 rfl) ?_
    obtain ⟨S1, hc, h⟩ := bv_some h
    refine R_cVv C hd (ccX10_stepOn l G  hc) kX10_241 rfl (by decide) (rfl : kd 142 = 10) hl.1 ⟨by decide, by decide⟩ rfl rfl (Nat.le_of_ble_eq_true rfl) dX10_valley_95 ⟨Nat.zero_le _, Nat.zero_le _⟩ (fun H locs hd => ?_)
    generalize S1 = S at h hd
    refine lv_iconst (v := 0) hx hb dX10_valley_98 (by decide) ?_
    refine lv_istore_n (lv' := [(2, .int 0), (0, .ref (gR G 142))]) hx hb dX10_valley_99 rfl hl (by decide) rfl (fun ls hl => ?_)
    exact sLX10_valley_100 C hr _ 0 _ _ _ _ _  hd (lv_sub hl [1, 0] rfl) h
  · rw [if_neg c1] at h
    refine lv_aload_n hx hb dX10_valley_78 rfl (lv_at hl 0 rfl) ?_
    refine gX10_50 C hd (rfl : kd 142 = 10) (q := 149) rfl dX10_valley_79 (fun y2 => ?_)
    refine lv_bipush (v := 64) hx hb dX10_valley_82 (by decide) ?_
    refine lv_iload_n hx hb dX10_valley_84 rfl (lv_at hl 1 rfl) ?_
    refine lv_iadd hx hb dX10_valley_85 ?_
    refine lv_iconst (v := 0) hx hb dX10_valley_86 (by decide) ?_
    refine R_iast C hd y2 h dX10_valley_87 (fun S H locs hd h => ?_)
    refine R_vi h (fun x3 ex3 h => ?_)
    refine lv_iinc (v := x3) (lv' := [(2, .int x3), (0, .ref (gR G 142))]) hx hb dX10_valley_88 hl (k := 1) rfl (by rw [ex3]; rfl) (by decide) rfl (fun ls hl => ?_)
    refine lv_goto (tgt := 72) hx hb dX10_valley_91 (by decide) ?_
    exact hr72 x3 _ _ _ _ _  hd (lv_sub hl [1, 0] rfl) h
def LX10_valley_72 : Nat → Int32 → St → Option (Int32 × St)
  | 0 => fun _ _ => none
  | n + 1 => fun l2 S => KX10_valley_72 (LX10_valley_72 n) l2 S
theorem sLX10_valley_72 (C : Cx p s m args meth c cX10_valley 3 RX10 G) (hr : meth.sig.returnType = some .int) : ∀ (n : Nat) (l2 : Int32) (S : St) (res : (Int32 × St)) (H : Heap) (locs : List Loc) (ls : Array Slot), Dy G S s H locs → lv_has ls 3 [(0, .ref (gR G 142)), (2, .int l2)] → LX10_valley_72 n l2 S = some res → W p l e (rmL 138 0 0) s m args below meth c H locs 0 0 (MQ below (QI G res.1 res.2) args s 0 0 (Ab G)) (F0 m 72 ls []) := by
  intro n
  induction n with
  | zero => intro l2 S res H locs ls  hd hl h; cases h
  | succ n ih =>
    intro l2 S res H locs ls  hd hl h
    exact sKX10_valley_72 C hr ih  hd hl h
def KX10_valley_50 (r50 : Int32 → St → Option (Int32 × St)) (l2 : Int32) (S : St) : Option (Int32 × St) :=
  (if 5 ≤ l2 then (LX10_valley_72 FU 0 S) else wr S 145 (5 + l2) 0 fun S => vl (l2 + 1) fun x3 => (r50 x3 S))
set_option maxHeartbeats 4000000 in
set_option maxRecDepth 20000 in
theorem sKX10_valley_50 (C : Cx p s m args meth c cX10_valley 3 RX10 G) (hr : meth.sig.returnType = some .int) {r50 : Int32 → St → Option (Int32 × St)} (hr50 : ∀ (l2 : Int32) (S : St) (res : (Int32 × St)) (H : Heap) (locs : List Loc) (ls : Array Slot), Dy G S s H locs → lv_has ls 3 [(0, .ref (gR G 142)), (2, .int l2)] → r50 l2 S = some res → W p l e (rmL 138 0 0) s m args below meth c H locs 0 0 (MQ below (QI G res.1 res.2) args s 0 0 (Ab G)) (F0 m 50 ls [])) {l2 : Int32} {S : St} {res : (Int32 × St)} {H : Heap} {locs : List Loc} {ls : Array Slot}  (hd : Dy G S s H locs) (hl : lv_has ls 3 [(0, .ref (gR G 142)), (2, .int l2)]) (h : KX10_valley_50 r50 l2 S = some res) : W p l e (rmL 138 0 0) s m args below meth c H locs 0 0 (MQ below (QI G res.1 res.2) args s 0 0 (Ab G)) (F0 m 50 ls []) := by
  unfold KX10_valley_50 at h
  have hx := C.1.1
  have hb := C.1.2.1
  refine lv_iload_n hx hb dX10_valley_50 rfl (lv_at hl 1 rfl) ?_
  refine lv_iconst (v := 5) hx hb dX10_valley_51 (by decide) ?_
  refine lv_icmp_ge (tgt := 70) hx hb dX10_valley_52 (by decide) (fun c1 => ?_) (fun c1 => ?_)
  · rw [if_pos c1] at h
    refine lv_iconst (v := 0) hx hb dX10_valley_70 (by decide) ?_
    refine lv_istore_n (lv' := [(2, .int 0), (0, .ref (gR G 142))]) hx hb dX10_valley_71 rfl hl (by decide) rfl (fun ls hl => ?_)
    exact sLX10_valley_72 C hr _ 0 _ _ _ _ _  hd (lv_sub hl [1, 0] rfl) h
  · rw [if_neg c1] at h
    refine lv_aload_n hx hb dX10_valley_55 rfl (lv_at hl 0 rfl) ?_
    refine gX10_39 C hd (rfl : kd 142 = 10) (q := 145) rfl dX10_valley_56 (fun y2 => ?_)
    refine lv_iconst (v := 5) hx hb dX10_valley_59 (by decide) ?_
    refine lv_iload_n hx hb dX10_valley_60 rfl (lv_at hl 1 rfl) ?_
    refine lv_iadd hx hb dX10_valley_61 ?_
    refine lv_iconst (v := 0) hx hb dX10_valley_62 (by decide) ?_
    refine R_iast C hd y2 h dX10_valley_63 (fun S H locs hd h => ?_)
    refine R_vi h (fun x3 ex3 h => ?_)
    refine lv_iinc (v := x3) (lv' := [(2, .int x3), (0, .ref (gR G 142))]) hx hb dX10_valley_64 hl (k := 1) rfl (by rw [ex3]; rfl) (by decide) rfl (fun ls hl => ?_)
    refine lv_goto (tgt := 50) hx hb dX10_valley_67 (by decide) ?_
    exact hr50 x3 _ _ _ _ _  hd (lv_sub hl [1, 0] rfl) h
def LX10_valley_50 : Nat → Int32 → St → Option (Int32 × St)
  | 0 => fun _ _ => none
  | n + 1 => fun l2 S => KX10_valley_50 (LX10_valley_50 n) l2 S
theorem sLX10_valley_50 (C : Cx p s m args meth c cX10_valley 3 RX10 G) (hr : meth.sig.returnType = some .int) : ∀ (n : Nat) (l2 : Int32) (S : St) (res : (Int32 × St)) (H : Heap) (locs : List Loc) (ls : Array Slot), Dy G S s H locs → lv_has ls 3 [(0, .ref (gR G 142)), (2, .int l2)] → LX10_valley_50 n l2 S = some res → W p l e (rmL 138 0 0) s m args below meth c H locs 0 0 (MQ below (QI G res.1 res.2) args s 0 0 (Ab G)) (F0 m 50 ls []) := by
  intro n
  induction n with
  | zero => intro l2 S res H locs ls  hd hl h; cases h
  | succ n ih =>
    intro l2 S res H locs ls  hd hl h
    exact sKX10_valley_50 C hr ih  hd hl h
def fX10_valley (a1 : Int32) (S : St) : Option (Int32 × St) :=
  pf S 142 3 0 fun S => (if a1 < 0 then (BX10_valley_17  S) else (if a1 ≤ (S 142 17) then pf S 142 17 0 fun S => pf S 142 19 a1 fun S => pf S 142 18 0 fun S => pf S 142 24 0 fun S => pf S 142 26 ((-1)) fun S => (LX10_valley_50 FU 0 S) else (BX10_valley_17  S)))
set_option maxHeartbeats 4000000 in
set_option maxRecDepth 20000 in
theorem sfX10_valley (C : Cx p s m args meth c cX10_valley 3 RX10 G) (hr : meth.sig.returnType = some .int) {a1 : Int32} {S : St} {res : (Int32 × St)} {H : Heap} {locs : List Loc} {ls : Array Slot}  (hd : Dy G S s H locs) (hl : lv_has ls 3 [(0, .ref (gR G 142)), (1, .int a1)]) (h : fX10_valley a1 S = some res) : W p l e (rmL 138 0 0) s m args below meth c H locs 0 0 (MQ below (QI G res.1 res.2) args s 0 0 (Ab G)) (F0 m 0 ls []) := by
  unfold fX10_valley at h
  have hx := C.1.1
  have hb := C.1.2.1
  refine lv_aload_n hx hb dX10_valley_0 rfl (lv_at hl 0 rfl) ?_
  refine lv_iconst (v := 0) hx hb dX10_valley_1 (by decide) ?_
  refine pX10_167 C hd (rfl : kd 142 = 10) h dX10_valley_2 (fun S H locs hd h => ?_)
  refine lv_iload_n hx hb dX10_valley_5 rfl (lv_at hl 1 rfl) ?_
  refine lv_if_lt (tgt := 17) hx hb dX10_valley_6 (by decide) (fun c1 => ?_) (fun c1 => ?_)
  · rw [if_pos c1] at h
    exact sBX10_valley_17 C hr  hd (lv_sub hl [0] rfl) h
  · rw [if_neg c1] at h
    refine lv_iload_n hx hb dX10_valley_9 rfl (lv_at hl 1 rfl) ?_
    refine lv_aload_n hx hb dX10_valley_10 rfl (lv_at hl 0 rfl) ?_
    refine gX10_174 C hd (rfl : kd 142 = 10) dX10_valley_11 ?_
    refine lv_icmp_le (tgt := 23) hx hb dX10_valley_14 (by decide) (fun c2 => ?_) (fun c2 => ?_)
    · rw [if_pos c2] at h
      refine lv_aload_n hx hb dX10_valley_23 rfl (lv_at hl 0 rfl) ?_
      refine lv_iconst (v := 0) hx hb dX10_valley_24 (by decide) ?_
      refine pX10_174 C hd (rfl : kd 142 = 10) h dX10_valley_25 (fun S H locs hd h => ?_)
      refine lv_aload_n hx hb dX10_valley_28 rfl (lv_at hl 0 rfl) ?_
      refine lv_iload_n hx hb dX10_valley_29 rfl (lv_at hl 1 rfl) ?_
      refine pX10_177 C hd (rfl : kd 142 = 10) h dX10_valley_30 (fun S H locs hd h => ?_)
      refine lv_aload_n hx hb dX10_valley_33 rfl (lv_at hl 0 rfl) ?_
      refine lv_iconst (v := 0) hx hb dX10_valley_34 (by decide) ?_
      refine pX10_180 C hd (rfl : kd 142 = 10) h dX10_valley_35 (fun S H locs hd h => ?_)
      refine lv_aload_n hx hb dX10_valley_38 rfl (lv_at hl 0 rfl) ?_
      refine lv_iconst (v := 0) hx hb dX10_valley_39 (by decide) ?_
      refine pX10_216 C hd (rfl : kd 142 = 10) h dX10_valley_40 (fun S H locs hd h => ?_)
      refine lv_aload_n hx hb dX10_valley_43 rfl (lv_at hl 0 rfl) ?_
      refine lv_iconst (v := -1) hx hb dX10_valley_44 (by decide) ?_
      refine pX10_77 C hd (rfl : kd 142 = 10) h dX10_valley_45 (fun S H locs hd h => ?_)
      refine lv_iconst (v := 0) hx hb dX10_valley_48 (by decide) ?_
      refine lv_istore_n (lv' := [(2, .int 0), (0, .ref (gR G 142)), (1, .int a1)]) hx hb dX10_valley_49 rfl hl (by decide) rfl (fun ls hl => ?_)
      exact sLX10_valley_50 C hr _ 0 _ _ _ _ _  hd (lv_sub hl [1, 0] rfl) h
    · rw [if_neg c2] at h
      exact sBX10_valley_17 C hr  hd (lv_sub hl [0] rfl) h
set_option maxRecDepth 20000 in
theorem ccX10_valley (l : Launch) (G : Gt) {a1 : Int32} {S : St} {res : (Int32 × St)}  (h : fX10_valley a1 S = some res) : Met l yX10_valley (wm yX10_valley cX10_valley 3 (some .int)) (rmL 138 0 0) (PcW G S [.ref (gR G 142), .int a1]) (QI G res.1 res.2) 0 0 (Ab G) := by
  refine Met.ofW (cc := cX10_valley) (maxL := 3) (ret := (some .int)) (by decide) rfl ?_
  intro p e s m args below meth c s₁ B hml hv
  obtain ⟨rfl, hK, hP⟩ := hv
  have C : Cx p s m _ meth c cX10_valley 3 RX10 G := ⟨⟨B.exec, B.bytes, hml, findClass_of_methodNamed B.named, fun w hw => atoms_spec (ws := wm yX10_valley cX10_valley 3 (some .int)) B.pre w (List.mem_cons_of_mem _ hw)⟩, B.notSynchronized, hK⟩
  have hl := lv_entry ([.ref (gR G 142), .int a1]) (n := 3) (Nat.le_of_ble_eq_true rfl)
  rw [lg_entry_eq]
  generalize (lg_sl ([.ref (gR G 142), .int a1]) ++ List.replicate (3 - (lg_sl ([.ref (gR G 142), .int a1])).length) Slot.unset).toArray = ls at hl ⊢
  exact sfX10_valley C B.returns  ⟨hP, va_S.rf⟩ hl h
end T36
