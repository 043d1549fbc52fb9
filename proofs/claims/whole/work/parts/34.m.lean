section T34
variable {p : Program} {l : Launch} {e : Env} {s : State} {m : MethodId} {args : Array Value} {below : List Frame} {meth : Method} {c : Code} {G : Gt}
def fX10_lost (a1 : Int32) (S : St) : Option (Int32 × St) :=
  pf S 142 3 0 fun S => bd (fX10_isSinger a1 S) fun x1 S => (if x1 = 0 then bd (fX10_fail 1 S) fun x6 S => ri x6 S else bv (fX10_pack 169 0 S) fun S => bd (fX10_knownByOthers a1 S) fun x4 S => pf S 142 41 a1 fun S => bd (fX10_knownByOthers a1 S) fun x5 S => pf S 142 41 ((-1)) fun S => ri (x4 &&& (x5 ^^^ (-1))) S)
set_option maxHeartbeats 4000000 in
set_option maxRecDepth 20000 in
theorem sfX10_lost (C : Cx p s m args meth c cX10_lost 4 RX10 G) (hr : meth.sig.returnType = some .int) {a1 : Int32} {S : St} {res : (Int32 × St)} {H : Heap} {locs : List Loc} {ls : Array Slot}  (hd : Dy G S s H locs) (hl : lv_has ls 4 [(0, .ref (gR G 142)), (1, .int a1)]) (h : fX10_lost a1 S = some res) : W p l e (rmL 10 0 0) s m args below meth c H locs 0 0 (MQ below (QI G res.1 res.2) args s 0 0 (Ab G)) (F0 m 0 ls []) := by
  unfold fX10_lost at h
  have hx := C.1.1
  have hb := C.1.2.1
  refine lv_aload_n hx hb dX10_lost_0 rfl (lv_at hl 0 rfl) ?_
  refine lv_iconst (v := 0) hx hb dX10_lost_1 (by decide) ?_
  refine pX10_167 C hd (rfl : kd 142 = 10) h dX10_lost_2 (fun S H locs hd h => ?_)
  refine lv_aload_n hx hb dX10_lost_5 rfl (lv_at hl 0 rfl) ?_
  refine lv_iload_n hx hb dX10_lost_6 rfl (lv_at hl 1 rfl) ?_
  obtain ⟨x1, S1, hc, h⟩ := bd_some h
  refine R_cVi C hd (ccX10_isSinger l G  hc) kX10_400 rfl (by decide) (rfl : kd 142 = 10) hl.1 ⟨by decide, by decide⟩ rfl rfl (Nat.le_of_ble_eq_true rfl) dX10_lost_7 ⟨Nat.zero_le _, Nat.zero_le _⟩ (fun H locs hd => ?_)
  generalize S1 = S at h hd
  refine lv_if_ne (tgt := 19) hx hb dX10_lost_10 (by decide) (fun c2 => ?_) (fun c2 => ?_)
  · rw [if_neg c2] at h
    refine lv_aload_n hx hb dX10_lost_19 rfl (lv_at hl 0 rfl) ?_
    refine lv_aload_n hx hb dX10_lost_20 rfl (lv_at hl 0 rfl) ?_
    refine gX10_116 C hd (rfl : kd 142 = 10) (q := 169) rfl dX10_lost_21 (fun y3 => ?_)
    refine lv_iconst (v := 0) hx hb dX10_lost_24 (by decide) ?_
    obtain ⟨S1, hc, h⟩ := bv_some h
    refine R_cVv C hd (ccX10_pack l G y3 hc) kX10_406 rfl (by decide) (rfl : kd 142 = 10) hl.1 ⟨by decide, by decide⟩ rfl rfl (Nat.le_of_ble_eq_true rfl) dX10_lost_25 ⟨Nat.zero_le _, Nat.zero_le _⟩ (fun H locs hd => ?_)
    generalize S1 = S at h hd
    refine lv_aload_n hx hb dX10_lost_28 rfl (lv_at hl 0 rfl) ?_
    refine lv_iload_n hx hb dX10_lost_29 rfl (lv_at hl 1 rfl) ?_
    obtain ⟨x4, S1, hc, h⟩ := bd_some h
    refine R_cVi C hd (ccX10_knownByOthers l G  hc) kX10_438 rfl (by decide) (rfl : kd 142 = 10) hl.1 ⟨by decide, by decide⟩ rfl rfl (Nat.le_of_ble_eq_true rfl) dX10_lost_30 ⟨Nat.zero_le _, Nat.zero_le _⟩ (fun H locs hd => ?_)
    generalize S1 = S at h hd
    refine lv_istore_n (lv' := [(2, .int x4), (0, .ref (gR G 142)), (1, .int a1)]) hx hb dX10_lost_33 rfl hl (by decide) rfl (fun ls hl => ?_)
    refine lv_aload_n hx hb dX10_lost_34 rfl (lv_at hl 1 rfl) ?_
    refine lv_iload_n hx hb dX10_lost_35 rfl (lv_at hl 2 rfl) ?_
    refine pX10_107 C hd (rfl : kd 142 = 10) h dX10_lost_36 (fun S H locs hd h => ?_)
    refine lv_aload_n hx hb dX10_lost_39 rfl (lv_at hl 1 rfl) ?_
    refine lv_iload_n hx hb dX10_lost_40 rfl (lv_at hl 2 rfl) ?_
    obtain ⟨x5, S1, hc, h⟩ := bd_some h
    refine R_cVi C hd (ccX10_knownByOthers l G  hc) kX10_438 rfl (by decide) (rfl : kd 142 = 10) hl.1 ⟨by decide, by decide⟩ rfl rfl (Nat.le_of_ble_eq_true rfl) dX10_lost_41 ⟨Nat.zero_le _, Nat.zero_le _⟩ (fun H locs hd => ?_)
    generalize S1 = S at h hd
    refine lv_istore_n (lv' := [(3, .int x5), (2, .int x4), (0, .ref (gR G 142)), (1, .int a1)]) hx hb dX10_lost_44 rfl hl (by decide) rfl (fun ls hl => ?_)
    refine lv_aload_n hx hb dX10_lost_45 rfl (lv_at hl 2 rfl) ?_
    refine lv_iconst (v := -1) hx hb dX10_lost_46 (by decide) ?_
    refine pX10_107 C hd (rfl : kd 142 = 10) h dX10_lost_47 (fun S H locs hd h => ?_)
    refine lv_iload_n hx hb dX10_lost_50 rfl (lv_at hl 1 rfl) ?_
    refine lv_iload_n hx hb dX10_lost_51 rfl (lv_at hl 0 rfl) ?_
    refine lv_iconst (v := -1) hx hb dX10_lost_52 (by decide) ?_
    refine lv_ixor hx hb dX10_lost_53 ?_
    refine lv_iand hx hb dX10_lost_54 ?_
    exact R_iret C hr hd h dX10_lost_55
  · rw [if_pos c2] at h
    refine lv_aload_n hx hb dX10_lost_13 rfl (lv_at hl 0 rfl) ?_
    refine lv_iconst (v := 1) hx hb dX10_lost_14 (by decide) ?_
    obtain ⟨x6, S1, hc, h⟩ := bd_some h
    refine R_cVi C hd (ccX10_fail l G  hc) kX10_325 rfl (by decide) (rfl : kd 142 = 10) hl.1 ⟨by decide, by decide⟩ rfl rfl (Nat.le_of_ble_eq_true rfl) dX10_lost_15 ⟨Nat.zero_le _, Nat.zero_le _⟩ (fun H locs hd => ?_)
    generalize S1 = S at h hd
    exact R_iret C hr hd h dX10_lost_18
set_option maxRecDepth 20000 in
theorem ccX10_lost (l : Launch) (G : Gt) {a1 : Int32} {S : St} {res : (Int32 × St)}  (h : fX10_lost a1 S = some res) : Met l yX10_lost (wm yX10_lost cX10_lost 4 (some .int)) (rmL 10 0 0) (PcW G S [.ref (gR G 142), .int a1]) (QI G res.1 res.2) 0 0 (Ab G) := by
  refine Met.ofW (cc := cX10_lost) (maxL := 4) (ret := (some .int)) (by decide) rfl ?_
  intro p e s m args below meth c s₁ B hml hv
  obtain ⟨rfl, hK, hP⟩ := hv
  have C : Cx p s m _ meth c cX10_lost 4 RX10 G := ⟨⟨B.exec, B.bytes, hml, findClass_of_methodNamed B.named, fun w hw => atoms_spec (ws := wm yX10_lost cX10_lost 4 (some .int)) B.pre w (List.mem_cons_of_mem _ hw)⟩, B.notSynchronized, hK⟩
  have hl := lv_entry ([.ref (gR G 142), .int a1]) (n := 4) (Nat.le_of_ble_eq_true rfl)
  rw [lg_entry_eq]
  generalize (lg_sl ([.ref (gR G 142), .int a1]) ++ List.replicate (4 - (lg_sl ([.ref (gR G 142), .int a1])).length) Slot.unset).toArray = ls at hl ⊢
  exact sfX10_lost C B.returns  ⟨hP, va_S.rf⟩ hl h
def BX10_needed_21  (S : St) : Option (Int32 × St) :=
  bd (fX10_fail 1 S) fun x1 S => ri x1 S
set_option maxHeartbeats 4000000 in
set_option maxRecDepth 20000 in
theorem sBX10_needed_21 (C : Cx p s m args meth c cX10_needed 8 RX10 G) (hr : meth.sig.returnType = some .int)  {S : St} {res : (Int32 × St)} {H : Heap} {locs : List Loc} {ls : Array Slot}  (hd : Dy G S s H locs) (hl : lv_has ls 8 [(0, .ref (gR G 142))]) (h : BX10_needed_21  S = some res) : W p l e (rmL 8 0 0) s m args below meth c H locs 0 0 (MQ below (QI G res.1 res.2) args s 0 0 (Ab G)) (F0 m 21 ls []) := by
  unfold BX10_needed_21 at h
  have hx := C.1.1
  have hb := C.1.2.1
  refine lv_aload_n hx hb dX10_needed_21 rfl (lv_at hl 0 rfl) ?_
  refine lv_iconst (v := 1) hx hb dX10_needed_22 (by decide) ?_
  obtain ⟨x1, S1, hc, h⟩ := bd_some h
  refine R_cVi C hd (ccX10_fail l G  hc) kX10_325 rfl (by decide) (rfl : kd 142 = 10) hl.1 ⟨by decide, by decide⟩ rfl rfl (Nat.le_of_ble_eq_true rfl) dX10_needed_23 ⟨Nat.zero_le _, Nat.zero_le _⟩ (fun H locs hd => ?_)
  generalize S1 = S at h hd
  exact R_iret C hr hd h dX10_needed_26
def BX10_needed_139 (r60 : Int32 → Int32 → Int32 → Int32 → Int32 → St → Option (Int32 × St)) (l1 : Int32) (l2 : Int32) (l3 : Int32) (l4 : Int32) (l5 : Int32) (S : St) : Option (Int32 × St) :=
  bv (fX10_unpack 169 0 S) fun S => vl (l5 + 1) fun x2 => (r60 l1 l2 l3 l4 x2 S)
set_option maxHeartbeats 4000000 in
set_option maxRecDepth 20000 in
theorem sBX10_needed_139 (C : Cx p s m args meth c cX10_needed 8 RX10 G) (hr : meth.sig.returnType = some .int) {r60 : Int32 → Int32 → Int32 → Int32 → Int32 → St → Option (Int32 × St)} (hr60 : ∀ (l1 : Int32) (l2 : Int32) (l3 : Int32) (l4 : Int32) (l5 : Int32) (S : St) (res : (Int32 × St)) (H : Heap) (locs : List Loc) (ls : Array Slot), Dy G S s H locs → lv_has ls 8 [(0, .ref (gR G 142)), (1, .int l1), (2, .int l2), (3, .int l3), (4, .int l4), (5, .int l5)] → r60 l1 l2 l3 l4 l5 S = some res → W p l e (rmL 8 0 0) s m args below meth c H locs 0 0 (MQ below (QI G res.1 res.2) args s 0 0 (Ab G)) (F0 m 60 ls [])) {l1 : Int32} {l2 : Int32} {l3 : Int32} {l4 : Int32} {l5 : Int32} {S : St} {res : (Int32 × St)} {H : Heap} {locs : List Loc} {ls : Array Slot}  (hd : Dy G S s H locs) (hl : lv_has ls 8 [(0, .ref (gR G 142)), (1, .int l1), (2, .int l2), (3, .int l3), (4, .int l4), (5, .int l5)]) (h : BX10_needed_139 r60 l1 l2 l3 l4 l5 S = some res) : W p l e (rmL 8 0 0) s m args below meth c H locs 0 0 (MQ below (QI G res.1 res.2) args s 0 0 (Ab G)) (F0 m 139 ls []) := by
  unfold BX10_needed_139 at h
  have hx := C.1.1
  have hb := C.1.2.1
  refine lv_aload_n hx hb dX10_needed_139 rfl (lv_at hl 0 rfl) ?_
  refine lv_aload_n hx hb dX10_needed_140 rfl (lv_at hl 0 rfl) ?_
  refine gX10_116 C hd (rfl : kd 142 = 10) (q := 169) rfl dX10_needed_141 (fun y1 => ?_)
  refine lv_iconst (v := 0) hx hb dX10_needed_144 (by decide) ?_
  obtain ⟨S1, hc, h⟩ := bv_some h
  refine R_cVv C hd (ccX10_unpack l G y1 hc) kX10_430 rfl (by decide) (rfl : kd 142 = 10) hl.1 ⟨by decide, by decide⟩ rfl rfl (Nat.le_of_ble_eq_true rfl) dX10_needed_145 ⟨Nat.zero_le _, Nat.zero_le _⟩ (fun H locs hd => ?_)
  generalize S1 = S at h hd
  refine R_vi h (fun x2 ex2 h => ?_)
  refine lv_iinc (v := x2) (lv' := [(5, .int x2), (0, .ref (gR G 142)), (1, .int l1), (2, .int l2), (3, .int l3), (4, .int l4)]) hx hb dX10_needed_148 hl (k := 5) rfl (by rw [ex2]; rfl) (by decide) rfl (fun ls hl => ?_)
  refine lv_goto (tgt := 60) hx hb dX10_needed_151 (by decide) ?_
  exact hr60 l1 l2 l3 l4 x2 _ _ _ _ _  hd (lv_sub hl [1, 2, 3, 4, 5, 0] rfl) h
def BX10_needed_130 (r60 : Int32 → Int32 → Int32 → Int32 → Int32 → St → Option (Int32 × St)) (l1 : Int32) (l2 : Int32) (l3 : Int32) (l4 : Int32) (l5 : Int32) (l6 : Int32) (S : St) : Option (Int32 × St) :=
  (if l6 = 0 then (BX10_needed_139 r60 l1 l2 l3 l4 l5 S) else (BX10_needed_139 r60 l1 l2 l3 l5 l5 S))
set_option maxHeartbeats 4000000 in
set_option maxRecDepth 20000 in
theorem sBX10_needed_130 (C : Cx p s m args meth c cX10_needed 8 RX10 G) (hr : meth.sig.returnType = some .int) {r60 : Int32 → Int32 → Int32 → Int32 → Int32 → St → Option (Int32 × St)} (hr60 : ∀ (l1 : Int32) (l2 : Int32) (l3 : Int32) (l4 : Int32) (l5 : Int32) (S : St) (res : (Int32 × St)) (H : Heap) (locs : List Loc) (ls : Array Slot), Dy G S s H locs → lv_has ls 8 [(0, .ref (gR G 142)), (1, .int l1), (2, .int l2), (3, .int l3), (4, .int l4), (5, .int l5)] → r60 l1 l2 l3 l4 l5 S = some res → W p l e (rmL 8 0 0) s m args below meth c H locs 0 0 (MQ below (QI G res.1 res.2) args s 0 0 (Ab G)) (F0 m 60 ls [])) {l1 : Int32} {l2 : Int32} {l3 : Int32} {l4 : Int32} {l5 : Int32} {l6 : Int32} {S : St} {res : (Int32 × St)} {H : Heap} {locs : List Loc} {ls : Array Slot}  (hd : Dy G S s H locs) (hl : lv_has ls 8 [(0, .ref (gR G 142)), (1, .int l1), (2, .int l2), (3, .int l3), (4, .int l4), (5, .int l5), (6, .int l6)]) (h : BX10_needed_130 r60 l1 l2 l3 l4 l5 l6 S = some res) : W p l e (rmL 8 0 0) s m args below meth c H locs 0 0 (MQ below (QI G res.1 res.2) args s 0 0 (Ab G)) (F0 m 130 ls []) := by
  unfold BX10_needed_130 at h
  have hx := C.1.1
  have hb := C.1.2.1
  refine lv_iload hx hb dX10_needed_130 (lv_at hl 6 rfl) ?_
  refine lv_if_eq (tgt := 139) hx hb dX10_needed_132 (by decide) (fun c1 => ?_) (fun c1 => ?_)
  · rw [if_pos c1] at h
    exact sBX10_needed_139 C hr hr60  hd (lv_sub hl [0, 1, 2, 3, 4, 5] rfl) h
  · rw [if_neg c1] at h
    refine lv_iload hx hb dX10_needed_135 (lv_at hl 5 rfl) ?_
    refine lv_istore (lv' := [(4, .int l5), (0, .ref (gR G 142)), (1, .int l1), (2, .int l2), (3, .int l3), (5, .int l5), (6, .int l6)]) hx hb dX10_needed_137 hl (by decide) rfl (fun ls hl => ?_)
    exact sBX10_needed_139 C hr hr60  hd (lv_sub hl [1, 2, 3, 4, 0, 5] rfl) h
def BX10_needed_122 (r60 : Int32 → Int32 → Int32 → Int32 → Int32 → St → Option (Int32 × St)) (r92 : Int32 → Int32 → Int32 → Int32 → Int32 → Int32 → Int32 → St → Option (Int32 × St)) (l1 : Int32) (l2 : Int32) (l3 : Int32) (l4 : Int32) (l5 : Int32) (l7 : Int32) (s0 : Int32) (S : St) : Option (Int32 × St) :=
  vl (l7 + 1) fun x1 => (r92 l1 l2 l3 l4 l5 s0 x1 S)
set_option maxHeartbeats 4000000 in
set_option maxRecDepth 20000 in
theorem sBX10_needed_122 (C : Cx p s m args meth c cX10_needed 8 RX10 G) (hr : meth.sig.returnType = some .int) {r60 : Int32 → Int32 → Int32 → Int32 → Int32 → St → Option (Int32 × St)} {r92 : Int32 → Int32 → Int32 → Int32 → Int32 → Int32 → Int32 → St → Option (Int32 × St)} (hr60 : ∀ (l1 : Int32) (l2 : Int32) (l3 : Int32) (l4 : Int32) (l5 : Int32) (S : St) (res : (Int32 × St)) (H : Heap) (locs : List Loc) (ls : Array Slot), Dy G S s H locs → lv_has ls 8 [(0, .ref (gR G 142)), (1, .int l1), (2, .int l2), (3, .int l3), (4, .int l4), (5, .int l5)] → r60 l1 l2 l3 l4 l5 S = some res → W p l e (rmL 8 0 0) s m args below meth c H locs 0 0 (MQ below (QI G res.1 res.2) args s 0 0 (Ab G)) (F0 m 60 ls [])) (hr92 : ∀ (l1 : Int32) (l2 : Int32) (l3 : Int32) (l4 : Int32) (l5 : Int32) (l6 : Int32) (l7 : Int32) (S : St) (res : (Int32 × St)) (H : Heap) (locs : List Loc) (ls : Array Slot), Dy G S s H locs → lv_has ls 8 [(0, .ref (gR G 142)), (1, .int l1), (2, .int l2), (3, .int l3), (4, .int l4), (5, .int l5), (6, .int l6), (7, .int l7)] → r92 l1 l2 l3 l4 l5 l6 l7 S = some res → W p l e (rmL 8 0 0) s m args below meth c H locs 0 0 (MQ below (QI G res.1 res.2) args s 0 0 (Ab G)) (F0 m 92 ls [])) {l1 : Int32} {l2 : Int32} {l3 : Int32} {l4 : Int32} {l5 : Int32} {l7 : Int32} {s0 : Int32} {S : St} {res : (Int32 × St)} {H : Heap} {locs : List Loc} {ls : Array Slot}  (hd : Dy G S s H locs) (hl : lv_has ls 8 [(0, .ref (gR G 142)), (1, .int l1), (2, .int l2), (3, .int l3), (4, .int l4), (5, .int l5), (7, .int l7)]) (h : BX10_needed_122 r60 r92 l1 l2 l3 l4 l5 l7 s0 S = some res) : W p l e (rmL 8 0 0) s m args below meth c H locs 0 0 (MQ below (QI G res.1 res.2) args s 0 0 (Ab G)) (F0 m 122 ls [.int s0]) := by
  unfold BX10_needed_122 at h
  have hx := C.1.1
  have hb := C.1.2.1
  refine lv_istore (lv' := [(6, .int s0), (0, .ref (gR G 142)), (1, .int l1), (2, .int l2), (3, .int l3), (4, .int l4), (5, .int l5), (7, .int l7)]) hx hb dX10_needed_122 hl (by decide) rfl (fun ls hl => ?_)
  refine R_vi h (fun x1 ex1 h => ?_)
  refine lv_iinc (v := x1) (lv' := [(7, .int x1), (6, .int s0), (0, .ref (gR G 142)), (1, .int l1), (2, .int l2), (3, .int l3), (4, .int l4), (5, .int l5)]) hx hb dX10_needed_124 hl (k := 7) rfl (by rw [ex1]; rfl) (by decide) rfl (fun ls hl => ?_)
  refine lv_goto (tgt := 92) hx hb dX10_needed_127 (by decide) ?_
  exact hr92 l1 l2 l3 l4 l5 s0 x1 _ _ _ _ _  hd (lv_sub hl [2, 3, 4, 5, 6, 7, 1, 0] rfl) h
def KX10_needed_92 (r60 : Int32 → Int32 → Int32 → Int32 → Int32 → St → Option (Int32 × St)) (r92 : Int32 → Int32 → Int32 → Int32 → Int32 → Int32 → Int32 → St → Option (Int32 × St)) (l1 : Int32) (l2 : Int32) (l3 : Int32) (l4 : Int32) (l5 : Int32) (l6 : Int32) (l7 : Int32) (S : St) : Option (Int32 × St) :=
  (if l3 ≤ l7 then (BX10_needed_130 r60 l1 l2 l3 l4 l5 l6 S) else (if l6 = 0 then (BX10_needed_130 r60 l1 l2 l3 l4 l5 l6 S) else bv (fX10_anHour  S) fun S => rd S 168 l1 fun x4 => (if x4 = l2 then (BX10_needed_122 r60 r92 l1 l2 l3 l4 l5 l7 0 S) else (BX10_needed_122 r60 r92 l1 l2 l3 l4 l5 l7 1 S))))
set_option maxHeartbeats 4000000 in
set_option maxRecDepth 20000 in
theorem sKX10_needed_92 (C : Cx p s m args meth c cX10_needed 8 RX10 G) (hr : meth.sig.returnType = some .int) {r60 : Int32 → Int32 → Int32 → Int32 → Int32 → St → Option (Int32 × St)} {r92 : Int32 → Int32 → Int32 → Int32 → Int32 → Int32 → Int32 → St → Option (Int32 × St)} (hr60 : ∀ (l1 : Int32) (l2 : Int32) (l3 : Int32) (l4 : Int32) (l5 : Int32) (S : St) (res : (Int32 × St)) (H : Heap) (locs : List Loc) (ls : Array Slot), Dy G S s H locs → lv_has ls 8 [(0, .ref (gR G 142)), (1, .int l1), (2, .int l2), (3, .int l3), (4, .int l4), (5, .int l5)] → r60 l1 l2 l3 l4 l5 S = some res → W p l e (rmL 8 0 0) s m args below meth c H locs 0 0 (MQ below (QI G res.1 res.2) args s 0 0 (Ab G)) (F0 m 60 ls [])) (hr92 : ∀ (l1 : Int32) (l2 : Int32) (l3 : Int32) (l4 : Int32) (l5 : Int32) (l6 : Int32) (l7 : Int32) (S : St) (res : (Int32 × St)) (H : Heap) (locs : List Loc) (ls : Array Slot), Dy G S s H locs → lv_has ls 8 [(0, .ref (gR G 142)), (1, .int l1), (2, .int l2), (3, .int l3), (4, .int l4), (5, .int l5), (6, .int l6), (7, .int l7)] → r92 l1 l2 l3 l4 l5 l6 l7 S = some res → W p l e (rmL 8 0 0) s m args below meth c H locs 0 0 (MQ below (QI G res.1 res.2) args s 0 0 (Ab G)) (F0 m 92 ls [])) {l1 : Int32} {l2 : Int32} {l3 : Int32} {l4 : Int32} {l5 : Int32} {l6 : Int32} {l7 : Int32} {S : St} {res : (Int32 × St)} {H : Heap} {locs : List Loc} {ls : Array Slot}  (hd : Dy G S s H locs) (hl : lv_has ls 8 [(0, .ref (gR G 142)), (1, .int l1), (2, .int l2), (3, .int l3), (4, .int l4), (5, .int l5), (6, .int l6), (7, .int l7)]) (h : KX10_needed_92 r60 r92 l1 l2 l3 l4 l5 l6 l7 S = some res) : W p l e (rmL 8 0 0) s m args below meth c H locs 0 0 (MQ below (QI G res.1 res.2) args s 0 0 (Ab G)) (F0 m 92 ls []) := by
  unfold KX10_needed_92 at h
  have hx := C.1.1
  have hb := C.1.2.1
  refine lv_iload hx hb dX10_needed_92 (lv_at hl 7 rfl) ?_
  refine lv_iload_n hx hb dX10_needed_94 rfl (lv_at hl 3 rfl) ?_
  refine lv_icmp_ge (tgt := 130) hx hb dX10_needed_95 (by decide) (fun c1 => ?_) (fun c1 => ?_)
  · rw [if_pos c1] at h
    exact sBX10_needed_130 C hr hr60  hd (lv_sub hl [0, 1, 2, 3, 4, 5, 6] rfl) h
  · rw [if_neg c1] at h
    refine lv_iload hx hb dX10_needed_98 (lv_at hl 6 rfl) ?_
    refine lv_if_eq (tgt := 130) hx hb dX10_needed_100 (by decide) (fun c2 => ?_) (fun c2 => ?_)
    · rw [if_pos c2] at h
      exact sBX10_needed_130 C hr hr60  hd (lv_sub hl [0, 1, 2, 3, 4, 5, 6] rfl) h
    · rw [if_neg c2] at h
      refine lv_aload_n hx hb dX10_needed_103 rfl (lv_at hl 0 rfl) ?_
      obtain ⟨S1, hc, h⟩ := bv_some h
      refine R_cVv C hd (ccX10_anHour l G  hc) kX10_389 rfl (by decide) (rfl : kd 142 = 10) hl.1 ⟨by decide, by decide⟩ rfl rfl (Nat.le_of_ble_eq_true rfl) dX10_needed_104 ⟨Nat.zero_le _, Nat.zero_le _⟩ (fun H locs hd => ?_)
      generalize S1 = S at h hd
      refine lv_aload_n hx hb dX10_needed_107 rfl (lv_at hl 0 rfl) ?_
      refine gX10_113 C hd (rfl : kd 142 = 10) (q := 168) rfl dX10_needed_108 (fun y3 => ?_)
      refine lv_iload_n hx hb dX10_needed_111 rfl (lv_at hl 1 rfl) ?_
      refine R_iald C hd y3 h dX10_needed_112 (fun x4 h => ?_)
      refine lv_iload_n hx hb dX10_needed_113 rfl (lv_at hl 2 rfl) ?_
      refine lv_icmp_eq (tgt := 121) hx hb dX10_needed_114 (by decide) (fun c5 => ?_) (fun c5 => ?_)
      · rw [if_pos c5] at h
        refine lv_iconst (v := 0) hx hb dX10_needed_121 (by decide) ?_
        exact sBX10_needed_122 C hr hr60 hr92  hd (lv_sub hl [0, 1, 2, 3, 4, 5, 7] rfl) h
      · rw [if_neg c5] at h
        refine lv_iconst (v := 1) hx hb dX10_needed_117 (by decide) ?_
        refine lv_goto (tgt := 122) hx hb dX10_needed_118 (by decide) ?_
        exact sBX10_needed_122 C hr hr60 hr92  hd (lv_sub hl [0, 1, 2, 3, 4, 5, 7] rfl) h
def LX10_needed_92 (r60 : Int32 → Int32 → Int32 → Int32 → Int32 → St → Option (Int32 × St)) : Nat → Int32 → Int32 → Int32 → Int32 → Int32 → Int32 → Int32 → St → Option (Int32 × St)
  | 0 => fun _ _ _ _ _ _ _ _ => none
  | n + 1 => fun l1 l2 l3 l4 l5 l6 l7 S => KX10_needed_92 r60 (LX10_needed_92 r60 n) l1 l2 l3 l4 l5 l6 l7 S
theorem sLX10_needed_92 (C : Cx p s m args meth c cX10_needed 8 RX10 G) (hr : meth.sig.returnType = some .int) {r60 : Int32 → Int32 → Int32 → Int32 → Int32 → St → Option (Int32 × St)} (hr60 : ∀ (l1 : Int32) (l2 : Int32) (l3 : Int32) (l4 : Int32) (l5 : Int32) (S : St) (res : (Int32 × St)) (H : Heap) (locs : List Loc) (ls : Array Slot), Dy G S s H locs → lv_has ls 8 [(0, .ref (gR G 142)), (1, .int l1), (2, .int l2), (3, .int l3), (4, .int l4), (5, .int l5)] → r60 l1 l2 l3 l4 l5 S = some res → W p l e (rmL 8 0 0) s m args below meth c H locs 0 0 (MQ below (QI G res.1 res.2) args s 0 0 (Ab G)) (F0 m 60 ls [])) : ∀ (n : Nat) (l1 : Int32) (l2 : Int32) (l3 : Int32) (l4 : Int32) (l5 : Int32) (l6 : Int32) (l7 : Int32) (S : St) (res : (Int32 × St)) (H : Heap) (locs : List Loc) (ls : Array Slot), Dy G S s H locs → lv_has ls 8 [(0, .ref (gR G 142)), (1, .int l1), (2, .int l2), (3, .int l3), (4, .int l4), (5, .int l5), (6, .int l6), (7, .int l7)] → LX10_needed_92 r60 n l1 l2 l3 l4 l5 l6 l7 S = some res → W p l e (rmL 8 0 0) s m args below meth c H locs 0 0 (MQ below (QI G res.1 res.2) args s 0 0 (Ab G)) (F0 m 92 ls []) := by
  intro n
  induction n with
  | zero => intro l1 l2 l3 l4 l5 l6 l7 S res H locs ls  hd hl h; cases h
  | succ n ih =>
    intro l1 l2 l3 l4 l5 l6 l7 S res H locs ls  hd hl h
    exact sKX10_needed_92 C hr hr60 ih  hd hl h
def KX10_needed_60 (r60 : Int32 → Int32 → Int32 → Int32 → Int32 → St → Option (Int32 × St)) (l1 : Int32) (l2 : Int32) (l3 : Int32) (l4 : Int32) (l5 : Int32) (S : St) : Option (Int32 × St) :=
  (if 99 < l5 then ri l4 S else (if l4 = (-1) then wr S 160 ((8 * l1) + l2) l5 fun S => (LX10_needed_92 r60 FU l1 l2 l3 l4 l5 1 0 S) else ri l4 S))
set_option maxHeartbeats 4000000 in
set_option maxRecDepth 20000 in
theorem sKX10_needed_60 (C : Cx p s m args meth c cX10_needed 8 RX10 G) (hr : meth.sig.returnType = some .int) {r60 : Int32 → Int32 → Int32 → Int32 → Int32 → St → Option (Int32 × St)} (hr60 : ∀ (l1 : Int32) (l2 : Int32) (l3 : Int32) (l4 : Int32) (l5 : Int32) (S : St) (res : (Int32 × St)) (H : Heap) (locs : List Loc) (ls : Array Slot), Dy G S s H locs → lv_has ls 8 [(0, .ref (gR G 142)), (1, .int l1), (2, .int l2), (3, .int l3), (4, .int l4), (5, .int l5)] → r60 l1 l2 l3 l4 l5 S = some res → W p l e (rmL 8 0 0) s m args below meth c H locs 0 0 (MQ below (QI G res.1 res.2) args s 0 0 (Ab G)) (F0 m 60 ls [])) {l1 : Int32} {l2 : Int32} {l3 : Int32} {l4 : Int32} {l5 : Int32} {S : St} {res : (Int32 × St)} {H : Heap} {locs : List Loc} {ls : Array Slot}  (hd : Dy G S s H locs) (hl : lv_has ls 8 [(0, .ref (gR G 142)), (1, .int l1), (2, .int l2), (3, .int l3), (4, .int l4), (5, .int l5)]) (h : KX10_needed_60 r60 l1 l2 l3 l4 l5 S = some res) : W p l e (rmL 8 0 0) s m args below meth c H locs 0 0 (MQ below (QI G res.1 res.2) args s 0 0 (Ab G)) (F0 m 60 ls []) := by
  unfold KX10_needed_60 at h
  have hx := C.1.1
  have hb := C.1.2.1
  refine lv_iload hx hb dX10_needed_60 (lv_at hl 5 rfl) ?_
  refine lv_bipush (v := 99) hx hb dX10_needed_62 (by decide) ?_
  refine lv_icmp_gt (tgt := 154) hx hb dX10_needed_64 (by decide) (fun c1 => ?_) (fun c1 => ?_)
  · rw [if_pos c1] at h
    refine lv_iload hx hb dX10_needed_154 (lv_at hl 4 rfl) ?_
    exact R_iret C hr hd h dX10_needed_156
  · rw [if_neg c1] at h
    refine lv_iload hx hb dX10_needed_67 (lv_at hl 4 rfl) ?_
    refine lv_iconst (v := -1) hx hb dX10_needed_69 (by decide) ?_
    refine lv_icmp_ne (tgt := 154) hx hb dX10_needed_70 (by decide) (fun c2 => ?_) (fun c2 => ?_)
    · rw [if_neg c2] at h
      refine lv_iload hx hb dX10_needed_154 (lv_at hl 4 rfl) ?_
      exact R_iret C hr hd h dX10_needed_156
    · rw [if_pos c2] at h
      refine lv_aload_n hx hb dX10_needed_73 rfl (lv_at hl 0 rfl) ?_
      refine gX10_86 C hd (rfl : kd 142 = 10) (q := 160) rfl dX10_needed_74 (fun y3 => ?_)
      refine lv_bipush (v := 8) hx hb dX10_needed_77 (by decide) ?_
      refine lv_iload_n hx hb dX10_needed_79 rfl (lv_at hl 1 rfl) ?_
      refine lv_imul hx hb dX10_needed_80 ?_
      refine lv_iload_n hx hb dX10_needed_81 rfl (lv_at hl 2 rfl) ?_
      refine lv_iadd hx hb dX10_needed_82 ?_
      refine lv_iload hx hb dX10_needed_83 (lv_at hl 5 rfl) ?_
      refine R_iast C hd y3 h dX10_needed_85 (fun S H locs hd h => ?_)
      refine lv_iconst (v := 1) hx hb dX10_needed_86 (by decide) ?_
      refine lv_istore (lv' := [(6, .int 1), (0, .ref (gR G 142)), (1, .int l1), (2, .int l2), (3, .int l3), (4, .int l4), (5, .int l5)]) hx hb dX10_needed_87 hl (by decide) rfl (fun ls hl => ?_)
      refine lv_iconst (v := 0) hx hb dX10_needed_89 (by decide) ?_
      refine lv_istore (lv' := [(7, .int 0), (6, .int 1), (0, .ref (gR G 142)), (1, .int l1), (2, .int l2), (3, .int l3), (4, .int l4), (5, .int l5)]) hx hb dX10_needed_90 hl (by decide) rfl (fun ls hl => ?_)
      exact sLX10_needed_92 C hr hr60 _ l1 l2 l3 l4 l5 1 0 _ _ _ _ _  hd (lv_sub hl [2, 3, 4, 5, 6, 7, 1, 0] rfl) h
def LX10_needed_60 : Nat → Int32 → Int32 → Int32 → Int32 → Int32 → St → Option (Int32 × St)
  | 0 => fun _ _ _ _ _ _ => none
  | n + 1 => fun l1 l2 l3 l4 l5 S => KX10_needed_60 (LX10_needed_60 n) l1 l2 l3 l4 l5 S
theorem sLX10_needed_60 (C : Cx p s m args meth c cX10_needed 8 RX10 G) (hr : meth.sig.returnType = some .int) : ∀ (n : Nat) (l1 : Int32) (l2 : Int32) (l3 : Int32) (l4 : Int32) (l5 : Int32) (S : St) (res : (Int32 × St)) (H : Heap) (locs : List Loc) (ls : Array Slot), Dy G S s H locs → lv_has ls 8 [(0, .ref (gR G 142)), (1, .int l1), (2, .int l2), (3, .int l3), (4, .int l4), (5, .int l5)] → LX10_needed_60 n l1 l2 l3 l4 l5 S = some res → W p l e (rmL 8 0 0) s m args below meth c H locs 0 0 (MQ below (QI G res.1 res.2) args s 0 0 (Ab G)) (F0 m 60 ls []) := by
  intro n
  induction n with
  | zero => intro l1 l2 l3 l4 l5 S res H locs ls  hd hl h; cases h
  | succ n ih =>
    intro l1 l2 l3 l4 l5 S res H locs ls  hd hl h
    exact sKX10_needed_60 C hr ih  hd hl h
def fX10_needed (a1 : Int32) (a2 : Int32) (a3 : Int32) (S : St) : Option (Int32 × St) :=
  pf S 142 3 0 fun S => bd (fX10_isSinger a1 S) fun x1 S => (if x1 = 0 then (BX10_needed_21  S) else bd (fX10_isField a2 S) fun x3 S => (if x3 = 0 then (BX10_needed_21  S) else bd (fX10_isIn (a3.toInt64) 1 60 S) fun x5 S => (if x5 = 0 then bd (fX10_fail 2 S) fun x8 S => ri x8 S else bv (fX10_pack 169 0 S) fun S => (LX10_needed_60 FU a1 a2 a3 ((-1)) 0 S))))
set_option maxHeartbeats 4000000 in
set_option maxRecDepth 20000 in
theorem sfX10_needed (C : Cx p s m args meth c cX10_needed 8 RX10 G) (hr : meth.sig.returnType = some .int) {a1 : Int32} {a2 : Int32} {a3 : Int32} {S : St} {res : (Int32 × St)} {H : Heap} {locs : List Loc} {ls : Array Slot}  (hd : Dy G S s H locs) (hl : lv_has ls 8 [(0, .ref (gR G 142)), (1, .int a1), (2, .int a2), (3, .int a3)]) (h : fX10_needed a1 a2 a3 S = some res) : W p l e (rmL 8 0 0) s m args below meth c H locs 0 0 (MQ below (QI G res.1 res.2) args s 0 0 (Ab G)) (F0 m 0 ls []) := by
  unfold fX10_needed at h
  have hx := C.1.1
  have hb := C.1.2.1
  refine lv_aload_n hx hb dX10_needed_0 rfl (lv_at hl 0 rfl) ?_
  refine lv_iconst (v := 0) hx hb dX10_needed_1 (by decide) ?_
  refine pX10_167 C hd (rfl : kd 142 = 10) h dX10_needed_2 (fun S H locs hd h => ?_)
  refine lv_aload_n hx hb dX10_needed_5 rfl (lv_at hl 0 rfl) ?_
  refine lv_iload_n hx hb dX10_needed_6 rfl (lv_at hl 1 rfl) ?_
  obtain ⟨x1, S1, hc, h⟩ := bd_some h
  refine R_cVi C hd (ccX10_isSinger l G  hc) kX10_400 rfl (by decide) (rfl : kd 142 = 10) hl.1 ⟨by decide, by decide⟩ rfl rfl (Nat.le_of_ble_eq_true rfl) dX10_needed_7 ⟨Nat.zero_le _, Nat.zero_le _⟩ (fun H locs hd => ?_)
  generalize S1 = S at h hd
  refine lv_if_eq (tgt := 21) hx hb dX10_needed_10 (by decide) (fun c2 => ?_) (fun c2 => ?_)
  · rw [if_pos c2] at h
    exact sBX10_needed_21 C hr  hd (lv_sub hl [0] rfl) h
  · rw [if_neg c2] at h
    refine lv_aload_n hx hb dX10_needed_13 rfl (lv_at hl 0 rfl) ?_
    refine lv_iload_n hx hb dX10_needed_14 rfl (lv_at hl 2 rfl) ?_
    obtain ⟨x3, S1, hc, h⟩ := bd_some h
    refine R_cVi C hd (ccX10_isField l G  hc) kX10_392 rfl (by decide) (rfl : kd 142 = 10) hl.1 ⟨by decide, by decide⟩ rfl rfl (Nat.le_of_ble_eq_true rfl) dX10_needed_15 ⟨Nat.zero_le _, Nat.zero_le _⟩ (fun H locs hd => ?_)
    generalize S1 = S at h hd
    refine lv_if_ne (tgt := 27) hx hb dX10_needed_18 (by decide) (fun c4 => ?_) (fun c4 => ?_)
    · rw [if_neg c4] at h
      refine lv_iload_n hx hb dX10_needed_27 rfl (lv_at hl 3 rfl) ?_
      refine lv_i2l hx hb dX10_needed_28 rfl ?_
      refine lv_lconst (v := 1) hx hb dX10_needed_29 rfl ?_
      refine lv_ldc2 hx hb C.1.2.2.2.1 (C.1.2.2.2.2 _ kcX10_433) dX10_needed_30 ?_
      obtain ⟨x5, S1, hc, h⟩ := bd_some h
      refine R_cSi C hd (ccX10_isIn l G  hc) kX10_170  hl.1 ⟨by decide, by decide⟩ rfl rfl (Nat.le_of_ble_eq_true rfl) dX10_needed_33 ⟨Nat.zero_le _, Nat.zero_le _⟩ (fun H locs hd => ?_)
      generalize S1 = S at h hd
      refine lv_if_ne (tgt := 45) hx hb dX10_needed_36 (by decide) (fun c6 => ?_) (fun c6 => ?_)
      · rw [if_neg c6] at h
        refine lv_aload_n hx hb dX10_needed_45 rfl (lv_at hl 0 rfl) ?_
        refine lv_aload_n hx hb dX10_needed_46 rfl (lv_at hl 0 rfl) ?_
        refine gX10_116 C hd (rfl : kd 142 = 10) (q := 169) rfl dX10_needed_47 (fun y7 => ?_)
        refine lv_iconst (v := 0) hx hb dX10_needed_50 (by decide) ?_
        obtain ⟨S1, hc, h⟩ := bv_some h
        refine R_cVv C hd (ccX10_pack l G y7 hc) kX10_406 rfl (by decide) (rfl : kd 142 = 10) hl.1 ⟨by decide, by decide⟩ rfl rfl (Nat.le_of_ble_eq_true rfl) dX10_needed_51 ⟨Nat.zero_le _, Nat.zero_le _⟩ (fun H locs hd => ?_)
        generalize S1 = S at h hd
        refine lv_iconst (v := -1) hx hb dX10_needed_54 (by decide) ?_
        refine lv_istore (lv' := [(4, .int ((-1))), (0, .ref (gR G 142)), (1, .int a1), (2, .int a2), (3, .int a3)]) hx hb dX10_needed_55 hl (by decide) rfl (fun ls hl => ?_)
        refine lv_iconst (v := 0) hx hb dX10_needed_57 (by decide) ?_
        refine lv_istore (lv' := [(5, .int 0), (4, .int ((-1))), (0, .ref (gR G 142)), (1, .int a1), (2, .int a2), (3, .int a3)]) hx hb dX10_needed_58 hl (by decide) rfl (fun ls hl => ?_)
        exact sLX10_needed_60 C hr _ a1 a2 a3 ((-1)) 0 _ _ _ _ _  hd (lv_sub hl [2, 3, 4, 5, 1, 0] rfl) h
      · rw [if_pos c6] at h
        refine lv_aload_n hx hb dX10_needed_39 rfl (lv_at hl 0 rfl) ?_
        refine lv_iconst (v := 2) hx hb dX10_needed_40 (by decide) ?_
        obtain ⟨x8, S1, hc, h⟩ := bd_some h
        refine R_cVi C hd (ccX10_fail l G  hc) kX10_325 rfl (by decide) (rfl : kd 142 = 10) hl.1 ⟨by decide, by decide⟩ rfl rfl (Nat.le_of_ble_eq_true rfl) dX10_needed_41 ⟨Nat.zero_le _, Nat.zero_le _⟩ (fun H locs hd => ?_)
        generalize S1 = S at h hd
        exact R_iret C hr hd h dX10_needed_44
    · rw [if_pos c4] at h
      exact sBX10_needed_21 C hr  hd (lv_sub hl [0] rfl) h
set_option maxRecDepth 20000 in
theorem ccX10_needed (l : Launch) (G : Gt) {a1 : Int32} {a2 : Int32} {a3 : Int32} {S : St} {res : (Int32 × St)}  (h : fX10_needed a1 a2 a3 S = some res) : Met l yX10_needed (wm yX10_needed cX10_needed 8 (some .int)) (rmL 8 0 0) (PcW G S [.ref (gR G 142), .int a1, .int a2, .int a3]) (QI G res.1 res.2) 0 0 (Ab G) := by
  refine Met.ofW (cc := cX10_needed) (maxL := 8) (ret := (some .int)) (by decide) rfl ?_
  intro p e s m args below meth c s₁ B hml hv
  obtain ⟨rfl, hK, hP⟩ := hv
  have C : Cx p s m _ meth c cX10_needed 8 RX10 G := ⟨⟨B.exec, B.bytes, hml, findClass_of_methodNamed B.named, fun w hw => atoms_spec (ws := wm yX10_needed cX10_needed 8 (some .int)) B.pre w (List.mem_cons_of_mem _ hw)⟩, B.notSynchronized, hK⟩
  have hl := lv_entry ([.ref (gR G 142), .int a1, .int a2, .int a3]) (n := 8) (Nat.le_of_ble_eq_true rfl)
  rw [lg_entry_eq]
  generalize (lg_sl ([.ref (gR G 142), .int a1, .int a2, .int a3]) ++ List.replicate (8 - (lg_sl ([.ref (gR G 142), .int a1, .int a2, .int a3])).length) Slot.unset).toArray = ls at hl ⊢
  exact sfX10_needed C B.returns  ⟨hP, va_S.rf⟩ hl h
def BX10_commonOf_119 (r23 : Int32 → Int32 → Int32 → St → Option (Int32 × St)) (r39 : Int32 → Int32 → Int32 → Int32 → Int32 → St → Option (Int32 × St)) (l1 : Int32) (l2 : Int32) (l3 : Int32) (l5 : Int32) (l6 : Int32) (s1 : Int32) (s2 : Int32) (S : St) : Option (Int32 × St) :=
  wr S 170 s1 s2 fun S => vl (l5 + 1) fun x1 => (r39 l1 l2 l3 l6 x1 S)
set_option maxHeartbeats 4000000 in
set_option maxRecDepth 20000 in
theorem sBX10_commonOf_119 (C : Cx p s m args meth c cX10_commonOf 7 RX10 G) (hr : meth.sig.returnType = some .int) {r23 : Int32 → Int32 → Int32 → St → Option (Int32 × St)} {r39 : Int32 → Int32 → Int32 → Int32 → Int32 → St → Option (Int32 × St)} (hr23 : ∀ (l1 : Int32) (l2 : Int32) (l3 : Int32) (S : St) (res : (Int32 × St)) (H : Heap) (locs : List Loc) (ls : Array Slot), Dy G S s H locs → lv_has ls 7 [(0, .ref (gR G 142)), (1, .int l1), (2, .int l2), (3, .int l3)] → r23 l1 l2 l3 S = some res → W p l e (rmL 3 0 0) s m args below meth c H locs 0 0 (MQ below (QI G res.1 res.2) args s 0 0 (Ab G)) (F0 m 23 ls [])) (hr39 : ∀ (l1 : Int32) (l2 : Int32) (l3 : Int32) (l4 : Int32) (l5 : Int32) (S : St) (res : (Int32 × St)) (H : Heap) (locs : List Loc) (ls : Array Slot), Dy G S s H locs → lv_has ls 7 [(0, .ref (gR G 142)), (1, .int l1), (2, .int l2), (3, .int l3), (4, .int l4), (5, .int l5)] → r39 l1 l2 l3 l4 l5 S = some res → W p l e (rmL 3 0 0) s m args below meth c H locs 0 0 (MQ below (QI G res.1 res.2) args s 0 0 (Ab G)) (F0 m 39 ls [])) {l1 : Int32} {l2 : Int32} {l3 : Int32} {l5 : Int32} {l6 : Int32} {s1 : Int32} {s2 : Int32} {S : St} {res : (Int32 × St)} {H : Heap} {locs : List Loc} {ls : Array Slot}  (hd : Dy G S s H locs) (hl : lv_has ls 7 [(0, .ref (gR G 142)), (1, .int l1), (2, .int l2), (3, .int l3), (5, .int l5), (6, .int l6)]) (h : BX10_commonOf_119 r23 r39 l1 l2 l3 l5 l6 s1 s2 S = some res) : W p l e (rmL 3 0 0) s m args below meth c H locs 0 0 (MQ below (QI G res.1 res.2) args s 0 0 (Ab G)) (F0 m 119 ls [.int s2, .int s1, .ref (gR G 170)]) := by
  unfold BX10_commonOf_119 at h
  have hx := C.1.1
  have hb := C.1.2.1
  refine R_iast C hd (rfl : kd 170 = 20) h dX10_commonOf_119 (fun S H locs hd h => ?_)
  refine lv_iload hx hb dX10_commonOf_120 (lv_at hl 5 rfl) ?_
  refine lv_istore (lv' := [(4, .int l6), (0, .ref (gR G 142)), (1, .int l1), (2, .int l2), (3, .int l3), (5, .int l5), (6, .int l6)]) hx hb dX10_commonOf_122 hl (by decide) rfl (fun ls hl => ?_)
  refine R_vi h (fun x1 ex1 h => ?_)
  refine lv_iinc (v := x1) (lv' := [(5, .int x1), (4, .int l6), (0, .ref (gR G 142)), (1, .int l1), (2, .int l2), (3, .int l3), (6, .int l6)]) hx hb dX10_commonOf_124 hl (k := 5) rfl (by rw [ex1]; rfl) (by decide) rfl (fun ls hl => ?_)
  refine lv_goto (tgt := 39) hx hb dX10_commonOf_127 (by decide) ?_
  exact hr39 l1 l2 l3 l6 x1 _ _ _ _ _  hd (lv_sub hl [2, 3, 4, 5, 1, 0] rfl) h
def KX10_commonOf_39 (r23 : Int32 → Int32 → Int32 → St → Option (Int32 × St)) (r39 : Int32 → Int32 → Int32 → Int32 → Int32 → St → Option (Int32 × St)) (l1 : Int32) (l2 : Int32) (l3 : Int32) (l4 : Int32) (l5 : Int32) (S : St) : Option (Int32 × St) :=
  rd S 147 l2 fun x2 => (if x2 < l5 then vl (l3 + 1) fun x4 => (r23 l1 l2 x4 S) else rd S 170 l5 fun x6 => rd S 148 ((6 * l1) + l3) fun x9 => rd S 148 (((6 * l2) + l5) - 1) fun x11 => (if x9 = x11 then (BX10_commonOf_119 r23 r39 l1 l2 l3 l5 x6 l5 (l4 + 1) S) else rd S 170 l5 fun x14 => rd S 170 (l5 - 1) fun x16 => vl (if x14 < x16 then x16 else x14) fun x17 => (BX10_commonOf_119 r23 r39 l1 l2 l3 l5 x6 l5 x17 S)))
set_option maxHeartbeats 4000000 in
set_option maxRecDepth 20000 in
theorem sKX10_commonOf_39 (C : Cx p s m args meth c cX10_commonOf 7 RX10 G) (hr : meth.sig.returnType = some .int) {r23 : Int32 → Int32 → Int32 → St → Option (Int32 × St)} {r39 : Int32 → Int32 → Int32 → Int32 → Int32 → St → Option (Int32 × St)} (hr23 : ∀ (l1 : Int32) (l2 : Int32) (l3 : Int32) (S : St) (res : (Int32 × St)) (H : Heap) (locs : List Loc) (ls : Array Slot), Dy G S s H locs → lv_has ls 7 [(0, .ref (gR G 142)), (1, .int l1), (2, .int l2), (3, .int l3)] → r23 l1 l2 l3 S = some res → W p l e (rmL 3 0 0) s m args below meth c H locs 0 0 (MQ below (QI G res.1 res.2) args s 0 0 (Ab G)) (F0 m 23 ls [])) (hr39 : ∀ (l1 : Int32) (l2 : Int32) (l3 : Int32) (l4 : Int32) (l5 : Int32) (S : St) (res : (Int32 × St)) (H : Heap) (locs : List Loc) (ls : Array Slot), Dy G S s H locs → lv_has ls 7 [(0, .ref (gR G 142)), (1, .int l1), (2, .int l2), (3, .int l3), (4, .int l4), (5, .int l5)] → r39 l1 l2 l3 l4 l5 S = some res → W p l e (rmL 3 0 0) s m args below meth c H locs 0 0 (MQ below (QI G res.1 res.2) args s 0 0 (Ab G)) (F0 m 39 ls [])) {l1 : Int32} {l2 : Int32} {l3 : Int32} {l4 : Int32} {l5 : Int32} {S : St} {res : (Int32 × St)} {H : Heap} {locs : List Loc} {ls : Array Slot}  (hd : Dy G S s H locs) (hl : lv_has ls 7 [(0, .ref (gR G 142)), (1, .int l1), (2, .int l2), (3, .int l3), (4, .int l4), (5, .int l5)]) (h : KX10_commonOf_39 r23 r39 l1 l2 l3 l4 l5 S = some res) : W p l e (rmL 3 0 0) s m args below meth c H locs 0 0 (MQ below (QI G res.1 res.2) args s 0 0 (Ab G)) (F0 m 39 ls []) := by
  unfold KX10_commonOf_39 at h
  have hx := C.1.1
  have hb := C.1.2.1
  refine lv_iload hx hb dX10_commonOf_39 (lv_at hl 5 rfl) ?_
  refine lv_aload_n hx hb dX10_commonOf_41 rfl (lv_at hl 0 rfl) ?_
  refine gX10_45 C hd (rfl : kd 142 = 10) (q := 147) rfl dX10_commonOf_42 (fun y1 => ?_)
  refine lv_iload_n hx hb dX10_commonOf_45 rfl (lv_at hl 2 rfl) ?_
  refine R_iald C hd y1 h dX10_commonOf_46 (fun x2 h => ?_)
  refine lv_icmp_gt (tgt := 130) hx hb dX10_commonOf_47 (by decide) (fun c3 => ?_) (fun c3 => ?_)
  · rw [if_pos c3] at h
    refine R_vi h (fun x4 ex4 h => ?_)
    refine lv_iinc (v := x4) (lv' := [(3, .int x4), (0, .ref (gR G 142)), (1, .int l1), (2, .int l2), (4, .int l4), (5, .int l5)]) hx hb dX10_commonOf_130 hl (k := 3) rfl (by rw [ex4]; rfl) (by decide) rfl (fun ls hl => ?_)
    refine lv_goto (tgt := 23) hx hb dX10_commonOf_133 (by decide) ?_
    exact hr23 l1 l2 x4 _ _ _ _ _  hd (lv_sub hl [1, 2, 3, 0] rfl) h
  · rw [if_neg c3] at h
    refine lv_aload_n hx hb dX10_commonOf_50 rfl (lv_at hl 0 rfl) ?_
    refine gX10_119 C hd (rfl : kd 142 = 10) (q := 170) rfl dX10_commonOf_51 (fun y5 => ?_)
    refine lv_iload hx hb dX10_commonOf_54 (lv_at hl 5 rfl) ?_
    refine R_iald C hd y5 h dX10_commonOf_56 (fun x6 h => ?_)
    refine lv_istore (lv' := [(6, .int x6), (0, .ref (gR G 142)), (1, .int l1), (2, .int l2), (3, .int l3), (4, .int l4), (5, .int l5)]) hx hb dX10_commonOf_57 hl (by decide) rfl (fun ls hl => ?_)
    refine lv_aload_n hx hb dX10_commonOf_59 rfl (lv_at hl 1 rfl) ?_
    refine gX10_119 C hd (rfl : kd 142 = 10) (q := 170) rfl dX10_commonOf_60 (fun y7 => ?_)
    refine lv_iload hx hb dX10_commonOf_63 (lv_at hl 6 rfl) ?_
    refine lv_aload_n hx hb dX10_commonOf_65 rfl (lv_at hl 1 rfl) ?_
    refine gX10_48 C hd (rfl : kd 142 = 10) (q := 148) rfl dX10_commonOf_66 (fun y8 => ?_)
    refine lv_bipush (v := 6) hx hb dX10_commonOf_69 (by decide) ?_
    refine lv_iload_n hx hb dX10_commonOf_71 rfl (lv_at hl 2 rfl) ?_
    refine lv_imul hx hb dX10_commonOf_72 ?_
    refine lv_iload_n hx hb dX10_commonOf_73 rfl (lv_at hl 4 rfl) ?_
    refine lv_iadd hx hb dX10_commonOf_74 ?_
    refine R_iald C hd y8 h dX10_commonOf_75 (fun x9 h => ?_)
    refine lv_aload_n hx hb dX10_commonOf_76 rfl (lv_at hl 1 rfl) ?_
    refine gX10_48 C hd (rfl : kd 142 = 10) (q := 148) rfl dX10_commonOf_77 (fun y10 => ?_)
    refine lv_bipush (v := 6) hx hb dX10_commonOf_80 (by decide) ?_
    refine lv_iload_n hx hb dX10_commonOf_82 rfl (lv_at hl 3 rfl) ?_
    refine lv_imul hx hb dX10_commonOf_83 ?_
    refine lv_iload hx hb dX10_commonOf_84 (lv_at hl 6 rfl) ?_
    refine lv_iadd hx hb dX10_commonOf_86 ?_
    refine lv_iconst (v := 1) hx hb dX10_commonOf_87 (by decide) ?_
    refine lv_isub hx hb dX10_commonOf_88 ?_
    refine R_iald C hd y10 h dX10_commonOf_89 (fun x11 h => ?_)
    refine lv_icmp_ne (tgt := 100) hx hb dX10_commonOf_90 (by decide) (fun c12 => ?_) (fun c12 => ?_)
    · rw [if_neg c12] at h
      refine lv_aload_n hx hb dX10_commonOf_100 rfl (lv_at hl 1 rfl) ?_
      refine gX10_119 C hd (rfl : kd 142 = 10) (q := 170) rfl dX10_commonOf_101 (fun y13 => ?_)
      refine lv_iload hx hb dX10_commonOf_104 (lv_at hl 6 rfl) ?_
      refine R_iald C hd y13 h dX10_commonOf_106 (fun x14 h => ?_)
      refine lv_aload_n hx hb dX10_commonOf_107 rfl (lv_at hl 1 rfl) ?_
      refine gX10_119 C hd (rfl : kd 142 = 10) (q := 170) rfl dX10_commonOf_108 (fun y15 => ?_)
      refine lv_iload hx hb dX10_commonOf_111 (lv_at hl 6 rfl) ?_
      refine lv_iconst (v := 1) hx hb dX10_commonOf_113 (by decide) ?_
      refine lv_isub hx hb dX10_commonOf_114 ?_
      refine R_iald C hd y15 h dX10_commonOf_115 (fun x16 h => ?_)
      refine R_mmax C hl.1 kmX10_369 (Nat.le_of_ble_eq_true rfl) (Nat.le_of_ble_eq_true rfl) (Nat.le_of_ble_eq_true rfl) (Nat.le_of_ble_eq_true rfl) dX10_commonOf_116 ?_
      refine R_vl h (fun x17 h => ?_)
      exact sBX10_commonOf_119 C hr hr23 hr39  hd (lv_sub hl [1, 2, 3, 4, 6, 0] rfl) h
    · rw [if_pos c12] at h
      refine lv_iload hx hb dX10_commonOf_93 (lv_at hl 5 rfl) ?_
      refine lv_iconst (v := 1) hx hb dX10_commonOf_95 (by decide) ?_
      refine lv_iadd hx hb dX10_commonOf_96 ?_
      refine lv_goto (tgt := 119) hx hb dX10_commonOf_97 (by decide) ?_
      exact sBX10_commonOf_119 C hr hr23 hr39  hd (lv_sub hl [1, 2, 3, 4, 6, 0] rfl) h
def LX10_commonOf_39 (r23 : Int32 → Int32 → Int32 → St → Option (Int32 × St)) : Nat → Int32 → Int32 → Int32 → Int32 → Int32 → St → Option (Int32 × St)
  | 0 => fun _ _ _ _ _ _ => none
  | n + 1 => fun l1 l2 l3 l4 l5 S => KX10_commonOf_39 r23 (LX10_commonOf_39 r23 n) l1 l2 l3 l4 l5 S
theorem sLX10_commonOf_39 (C : Cx p s m args meth c cX10_commonOf 7 RX10 G) (hr : meth.sig.returnType = some .int) {r23 : Int32 → Int32 → Int32 → St → Option (Int32 × St)} (hr23 : ∀ (l1 : Int32) (l2 : Int32) (l3 : Int32) (S : St) (res : (Int32 × St)) (H : Heap) (locs : List Loc) (ls : Array Slot), Dy G S s H locs → lv_has ls 7 [(0, .ref (gR G 142)), (1, .int l1), (2, .int l2), (3, .int l3)] → r23 l1 l2 l3 S = some res → W p l e (rmL 3 0 0) s m args below meth c H locs 0 0 (MQ below (QI G res.1 res.2) args s 0 0 (Ab G)) (F0 m 23 ls [])) : ∀ (n : Nat) (l1 : Int32) (l2 : Int32) (l3 : Int32) (l4 : Int32) (l5 : Int32) (S : St) (res : (Int32 × St)) (H : Heap) (locs : List Loc) (ls : Array Slot), Dy G S s H locs → lv_has ls 7 [(0, .ref (gR G 142)), (1, .int l1), (2, .int l2), (3, .int l3), (4, .int l4), (5, .int l5)] → LX10_commonOf_39 r23 n l1 l2 l3 l4 l5 S = some res → W p l e (rmL 3 0 0) s m args below meth c H locs 0 0 (MQ below (QI G res.1 res.2) args s 0 0 (Ab G)) (F0 m 39 ls []) := by
  intro n
  induction n with
  | zero => intro l1 l2 l3 l4 l5 S res H locs ls  hd hl h; cases h
  | succ n ih =>
    intro l1 l2 l3 l4 l5 S res H locs ls  hd hl h
    exact sKX10_commonOf_39 C hr hr23 ih  hd hl h
def KX10_commonOf_23 (r23 : Int32 → Int32 → Int32 → St → Option (Int32 × St)) (l1 : Int32) (l2 : Int32) (l3 : Int32) (S : St) : Option (Int32 × St) :=
  rd S 147 l1 fun x2 => (if x2 ≤ l3 then rd S 147 l2 fun x6 => rd S 170 x6 fun x7 => ri x7 S else (LX10_commonOf_39 r23 FU l1 l2 l3 0 1 S))
set_option maxHeartbeats 4000000 in
set_option maxRecDepth 20000 in
theorem sKX10_commonOf_23 (C : Cx p s m args meth c cX10_commonOf 7 RX10 G) (hr : meth.sig.returnType = some .int) {r23 : Int32 → Int32 → Int32 → St → Option (Int32 × St)} (hr23 : ∀ (l1 : Int32) (l2 : Int32) (l3 : Int32) (S : St) (res : (Int32 × St)) (H : Heap) (locs : List Loc) (ls : Array Slot), Dy G S s H locs → lv_has ls 7 [(0, .ref (gR G 142)), (1, .int l1), (2, .int l2), (3, .int l3)] → r23 l1 l2 l3 S = some res → W p l e (rmL 3 0 0) s m args below meth c H locs 0 0 (MQ below (QI G res.1 res.2) args s 0 0 (Ab G)) (F0 m 23 ls [])) {l1 : Int32} {l2 : Int32} {l3 : Int32} {S : St} {res : (Int32 × St)} {H : Heap} {locs : List Loc} {ls : Array Slot}  (hd : Dy G S s H locs) (hl : lv_has ls 7 [(0, .ref (gR G 142)), (1, .int l1), (2, .int l2), (3, .int l3)]) (h : KX10_commonOf_23 r23 l1 l2 l3 S = some res) : W p l e (rmL 3 0 0) s m args below meth c H locs 0 0 (MQ below (QI G res.1 res.2) args s 0 0 (Ab G)) (F0 m 23 ls []) := by
  unfold KX10_commonOf_23 at h
  have hx := C.1.1
  have hb := C.1.2.1
  refine lv_iload_n hx hb dX10_commonOf_23 rfl (lv_at hl 3 rfl) ?_
  refine lv_aload_n hx hb dX10_commonOf_24 rfl (lv_at hl 0 rfl) ?_
  refine gX10_45 C hd (rfl : kd 142 = 10) (q := 147) rfl dX10_commonOf_25 (fun y1 => ?_)
  refine lv_iload_n hx hb dX10_commonOf_28 rfl (lv_at hl 1 rfl) ?_
  refine R_iald C hd y1 h dX10_commonOf_29 (fun x2 h => ?_)
  refine lv_icmp_ge (tgt := 136) hx hb dX10_commonOf_30 (by decide) (fun c3 => ?_) (fun c3 => ?_)
  · rw [if_pos c3] at h
    refine lv_aload_n hx hb dX10_commonOf_136 rfl (lv_at hl 0 rfl) ?_
    refine gX10_119 C hd (rfl : kd 142 = 10) (q := 170) rfl dX10_commonOf_137 (fun y4 => ?_)
    refine lv_aload_n hx hb dX10_commonOf_140 rfl (lv_at hl 0 rfl) ?_
    refine gX10_45 C hd (rfl : kd 142 = 10) (q := 147) rfl dX10_commonOf_141 (fun y5 => ?_)
    refine lv_iload_n hx hb dX10_commonOf_144 rfl (lv_at hl 2 rfl) ?_
    refine R_iald C hd y5 h dX10_commonOf_145 (fun x6 h => ?_)
    refine R_iald C hd y4 h dX10_commonOf_146 (fun x7 h => ?_)
    exact R_iret C hr hd h dX10_commonOf_147
  · rw [if_neg c3] at h
    refine lv_iconst (v := 0) hx hb dX10_commonOf_33 (by decide) ?_
    refine lv_istore (lv' := [(4, .int 0), (0, .ref (gR G 142)), (1, .int l1), (2, .int l2), (3, .int l3)]) hx hb dX10_commonOf_34 hl (by decide) rfl (fun ls hl => ?_)
    refine lv_iconst (v := 1) hx hb dX10_commonOf_36 (by decide) ?_
    refine lv_istore (lv' := [(5, .int 1), (4, .int 0), (0, .ref (gR G 142)), (1, .int l1), (2, .int l2), (3, .int l3)]) hx hb dX10_commonOf_37 hl (by decide) rfl (fun ls hl => ?_)
    exact sLX10_commonOf_39 C hr hr23 _ l1 l2 l3 0 1 _ _ _ _ _  hd (lv_sub hl [2, 3, 4, 5, 1, 0] rfl) h
def LX10_commonOf_23 : Nat → Int32 → Int32 → Int32 → St → Option (Int32 × St)
  | 0 => fun _ _ _ _ => none
  | n + 1 => fun l1 l2 l3 S => KX10_commonOf_23 (LX10_commonOf_23 n) l1 l2 l3 S
theorem sLX10_commonOf_23 (C : Cx p s m args meth c cX10_commonOf 7 RX10 G) (hr : meth.sig.returnType = some .int) : ∀ (n : Nat) (l1 : Int32) (l2 : Int32) (l3 : Int32) (S : St) (res : (Int32 × St)) (H : Heap) (locs : List Loc) (ls : Array Slot), Dy G S s H locs → lv_has ls 7 [(0, .ref (gR G 142)), (1, .int l1), (2, .int l2), (3, .int l3)] → LX10_commonOf_23 n l1 l2 l3 S = some res → W p l e (rmL 3 0 0) s m args below meth c H locs 0 0 (MQ below (QI G res.1 res.2) args s 0 0 (Ab G)) (F0 m 23 ls []) := by
  intro n
  induction n with
  | zero => intro l1 l2 l3 S res H locs ls  hd hl h; cases h
  | succ n ih =>
    intro l1 l2 l3 S res H locs ls  hd hl h
    exact sKX10_commonOf_23 C hr ih  hd hl h
def KX10_commonOf_2 (r2 : Int32 → Int32 → Int32 → St → Option (Int32 × St)) (l1 : Int32) (l2 : Int32) (l3 : Int32) (S : St) : Option (Int32 × St) :=
  (if 6 < l3 then (LX10_commonOf_23 FU l1 l2 0 S) else wr S 170 l3 0 fun S => vl (l3 + 1) fun x3 => (r2 l1 l2 x3 S))
set_option maxHeartbeats 4000000 in
set_option maxRecDepth 20000 in
theorem sKX10_commonOf_2 (C : Cx p s m args meth c cX10_commonOf 7 RX10 G) (hr : meth.sig.returnType = some .int) {r2 : Int32 → Int32 → Int32 → St → Option (Int32 × St)} (hr2 : ∀ (l1 : Int32) (l2 : Int32) (l3 : Int32) (S : St) (res : (Int32 × St)) (H : Heap) (locs : List Loc) (ls : Array Slot), Dy G S s H locs → lv_has ls 7 [(0, .ref (gR G 142)), (1, .int l1), (2, .int l2), (3, .int l3)] → r2 l1 l2 l3 S = some res → W p l e (rmL 3 0 0) s m args below meth c H locs 0 0 (MQ below (QI G res.1 res.2) args s 0 0 (Ab G)) (F0 m 2 ls [])) {l1 : Int32} {l2 : Int32} {l3 : Int32} {S : St} {res : (Int32 × St)} {H : Heap} {locs : List Loc} {ls : Array Slot}  (hd : Dy G S s H locs) (hl : lv_has ls 7 [(0, .ref (gR G 142)), (1, .int l1), (2, .int l2), (3, .int l3)]) (h : KX10_commonOf_2 r2 l1 l2 l3 S = some res) : W p l e (rmL 3 0 0) s m args below meth c H locs 0 0 (MQ below (QI G res.1 res.2) args s 0 0 (Ab G)) (F0 m 2 ls []) := by
  unfold KX10_commonOf_2 at h
  have hx := C.1.1
  have hb := C.1.2.1
  refine lv_iload_n hx hb dX10_commonOf_2 rfl (lv_at hl 3 rfl) ?_
  refine lv_bipush (v := 6) hx hb dX10_commonOf_3 (by decide) ?_
  refine lv_icmp_gt (tgt := 21) hx hb dX10_commonOf_5 (by decide) (fun c1 => ?_) (fun c1 => ?_)
  · rw [if_pos c1] at h
    refine lv_iconst (v := 0) hx hb dX10_commonOf_21 (by decide) ?_
    refine lv_istore_n (lv' := [(3, .int 0), (0, .ref (gR G 142)), (1, .int l1), (2, .int l2)]) hx hb dX10_commonOf_22 rfl hl (by decide) rfl (fun ls hl => ?_)
    exact sLX10_commonOf_23 C hr _ l1 l2 0 _ _ _ _ _  hd (lv_sub hl [1, 2, 3, 0] rfl) h
  · rw [if_neg c1] at h
    refine lv_aload_n hx hb dX10_commonOf_8 rfl (lv_at hl 0 rfl) ?_
    refine gX10_119 C hd (rfl : kd 142 = 10) (q := 170) rfl dX10_commonOf_9 (fun y2 => ?_)
    refine lv_iload_n hx hb dX10_commonOf_12 rfl (lv_at hl 3 rfl) ?_
    refine lv_iconst (v := 0) hx hb dX10_commonOf_13 (by decide) ?_
    refine R_iast C hd y2 h dX10_commonOf_14 (fun S H locs hd h => ?_)
    refine R_vi h (fun x3 ex3 h => ?_)
    refine lv_iinc (v := x3) (lv' := [(3, .int x3), (0, .ref (gR G 142)), (1, .int l1), (2, .int l2)]) hx hb dX10_commonOf_15 hl (k := 3) rfl (by rw [ex3]; rfl) (by decide) rfl (fun ls hl => ?_)
    refine lv_goto (tgt := 2) hx hb dX10_commonOf_18 (by decide) ?_
    exact hr2 l1 l2 x3 _ _ _ _ _  hd (lv_sub hl [1, 2, 3, 0] rfl) h
def LX10_commonOf_2 : Nat → Int32 → Int32 → Int32 → St → Option (Int32 × St)
  | 0 => fun _ _ _ _ => none
  | n + 1 => fun l1 l2 l3 S => KX10_commonOf_2 (LX10_commonOf_2 n) l1 l2 l3 S
theorem sLX10_commonOf_2 (C : Cx p s m args meth c cX10_commonOf 7 RX10 G) (hr : meth.sig.returnType = some .int) : ∀ (n : Nat) (l1 : Int32) (l2 : Int32) (l3 : Int32) (S : St) (res : (Int32 × St)) (H : Heap) (locs : List Loc) (ls : Array Slot), Dy G S s H locs → lv_has ls 7 [(0, .ref (gR G 142)), (1, .int l1), (2, .int l2), (3, .int l3)] → LX10_commonOf_2 n l1 l2 l3 S = some res → W p l e (rmL 3 0 0) s m args below meth c H locs 0 0 (MQ below (QI G res.1 res.2) args s 0 0 (Ab G)) (F0 m 2 ls []) := by
  intro n
  induction n with
  | zero => intro l1 l2 l3 S res H locs ls  hd hl h; cases h
  | succ n ih =>
    intro l1 l2 l3 S res H locs ls  hd hl h
    exact sKX10_commonOf_2 C hr ih  hd hl h
def fX10_commonOf (a1 : Int32) (a2 : Int32) (S : St) : Option (Int32 × St) :=
  (LX10_commonOf_2 FU a1 a2 0 S)
set_option maxHeartbeats 4000000 in
set_option maxRecDepth 20000 in
theorem sfX10_commonOf (C : Cx p s m args meth c cX10_commonOf 7 RX10 G) (hr : meth.sig.returnType = some .int) {a1 : Int32} {a2 : Int32} {S : St} {res : (Int32 × St)} {H : Heap} {locs : List Loc} {ls : Array Slot}  (hd : Dy G S s H locs) (hl : lv_has ls 7 [(0, .ref (gR G 142)), (1, .int a1), (2, .int a2)]) (h : fX10_commonOf a1 a2 S = some res) : W p l e (rmL 3 0 0) s m args below meth c H locs 0 0 (MQ below (QI G res.1 res.2) args s 0 0 (Ab G)) (F0 m 0 ls []) := by
  unfold fX10_commonOf at h
  have hx := C.1.1
  have hb := C.1.2.1
  refine lv_iconst (v := 0) hx hb dX10_commonOf_0 (by decide) ?_
  refine lv_istore_n (lv' := [(3, .int 0), (0, .ref (gR G 142)), (1, .int a1), (2, .int a2)]) hx hb dX10_commonOf_1 rfl hl (by decide) rfl (fun ls hl => ?_)
  exact sLX10_commonOf_2 C hr _ a1 a2 0 _ _ _ _ _  hd (lv_sub hl [1, 2, 3, 0] rfl) h
set_option maxRecDepth 20000 in
theorem ccX10_commonOf (l : Launch) (G : Gt) {a1 : Int32} {a2 : Int32} {S : St} {res : (Int32 × St)}  (h : fX10_commonOf a1 a2 S = some res) : Met l yX10_commonOf (wm yX10_commonOf cX10_commonOf 7 (some .int)) (rmL 3 0 0) (PcW G S [.ref (gR G 142), .int a1, .int a2]) (QI G res.1 res.2) 0 0 (Ab G) := by
  refine Met.ofW (cc := cX10_commonOf) (maxL := 7) (ret := (some .int)) (by decide) rfl ?_
  intro p e s m args below meth c s₁ B hml hv
  obtain ⟨rfl, hK, hP⟩ := hv
  have C : Cx p s m _ meth c cX10_commonOf 7 RX10 G := ⟨⟨B.exec, B.bytes, hml, findClass_of_methodNamed B.named, fun w hw => atoms_spec (ws := wm yX10_commonOf cX10_commonOf 7 (some .int)) B.pre w (List.mem_cons_of_mem _ hw)⟩, B.notSynchronized, hK⟩
  have hl := lv_entry ([.ref (gR G 142), .int a1, .int a2]) (n := 7) (Nat.le_of_ble_eq_true rfl)
  rw [lg_entry_eq]
  generalize (lg_sl ([.ref (gR G 142), .int a1, .int a2]) ++ List.replicate (7 - (lg_sl ([.ref (gR G 142), .int a1, .int a2])).length) Slot.unset).toArray = ls at hl ⊢
  exact sfX10_commonOf C B.returns  ⟨hP, va_S.rf⟩ hl h
def BX10_common_30  (S : St) : Option (Int32 × St) :=
  bd (fX10_fail 1 S) fun x1 S => ri x1 S
set_option maxHeartbeats 4000000 in
set_option maxRecDepth 20000 in
theorem sBX10_common_30 (C : Cx p s m args meth c cX10_common 3 RX10 G) (hr : meth.sig.returnType = some .int)  {S : St} {res : (Int32 × St)} {H : Heap} {locs : List Loc} {ls : Array Slot}  (hd : Dy G S s H locs) (hl : lv_has ls 3 [(0, .ref (gR G 142))]) (h : BX10_common_30  S = some res) : W p l e (rmL 5 0 0) s m args below meth c H locs 0 0 (MQ below (QI G res.1 res.2) args s 0 0 (Ab G)) (F0 m 30 ls []) := by
  unfold BX10_common_30 at h
  have hx := C.1.1
  have hb := C.1.2.1
  refine lv_aload_n hx hb dX10_common_30 rfl (lv_at hl 0 rfl) ?_
  refine lv_iconst (v := 1) hx hb dX10_common_31 (by decide) ?_
  obtain ⟨x1, S1, hc, h⟩ := bd_some h
  refine R_cVi C hd (ccX10_fail l G  hc) kX10_325 rfl (by decide) (rfl : kd 142 = 10) hl.1 ⟨by decide, by decide⟩ rfl rfl (Nat.le_of_ble_eq_true rfl) dX10_common_32 ⟨Nat.zero_le _, Nat.zero_le _⟩ (fun H locs hd => ?_)
  generalize S1 = S at h hd
  exact R_iret C hr hd h dX10_common_35
def fX10_common (a1 : Int32) (a2 : Int32) (S : St) : Option (Int32 × St) :=
  pf S 142 3 0 fun S => bd (fX10_isField a1 S) fun x1 S => (if x1 = 0 then (BX10_common_30  S) else bd (fX10_isField a2 S) fun x3 S => (if x3 = 0 then (BX10_common_30  S) else bd (fX10_commonOf a1 a2 S) fun x5 S => ri x5 S))
set_option maxHeartbeats 4000000 in
set_option maxRecDepth 20000 in
theorem sfX10_common (C : Cx p s m args meth c cX10_common 3 RX10 G) (hr : meth.sig.returnType = some .int) {a1 : Int32} {a2 : Int32} {S : St} {res : (Int32 × St)} {H : Heap} {locs : List Loc} {ls : Array Slot}  (hd : Dy G S s H locs) (hl : lv_has ls 3 [(0, .ref (gR G 142)), (1, .int a1), (2, .int a2)]) (h : fX10_common a1 a2 S = some res) : W p l e (rmL 5 0 0) s m args below meth c H locs 0 0 (MQ below (QI G res.1 res.2) args s 0 0 (Ab G)) (F0 m 0 ls []) := by
  unfold fX10_common at h
  have hx := C.1.1
  have hb := C.1.2.1
  refine lv_aload_n hx hb dX10_common_0 rfl (lv_at hl 0 rfl) ?_
  refine lv_iconst (v := 0) hx hb dX10_common_1 (by decide) ?_
  refine pX10_167 C hd (rfl : kd 142 = 10) h dX10_common_2 (fun S H locs hd h => ?_)
  refine lv_aload_n hx hb dX10_common_5 rfl (lv_at hl 0 rfl) ?_
  refine lv_iload_n hx hb dX10_common_6 rfl (lv_at hl 1 rfl) ?_
  obtain ⟨x1, S1, hc, h⟩ := bd_some h
  refine R_cVi C hd (ccX10_isField l G  hc) kX10_392 rfl (by decide) (rfl : kd 142 = 10) hl.1 ⟨by decide, by decide⟩ rfl rfl (Nat.le_of_ble_eq_true rfl) dX10_common_7 ⟨Nat.zero_le _, Nat.zero_le _⟩ (fun H locs hd => ?_)
  generalize S1 = S at h hd
  refine lv_if_eq (tgt := 30) hx hb dX10_common_10 (by decide) (fun c2 => ?_) (fun c2 => ?_)
  · rw [if_pos c2] at h
    exact sBX10_common_30 C hr  hd (lv_sub hl [0] rfl) h
  · rw [if_neg c2] at h
    refine lv_aload_n hx hb dX10_common_13 rfl (lv_at hl 0 rfl) ?_
    refine lv_iload_n hx hb dX10_common_14 rfl (lv_at hl 2 rfl) ?_
    obtain ⟨x3, S1, hc, h⟩ := bd_some h
    refine R_cVi C hd (ccX10_isField l G  hc) kX10_392 rfl (by decide) (rfl : kd 142 = 10) hl.1 ⟨by decide, by decide⟩ rfl rfl (Nat.le_of_ble_eq_true rfl) dX10_common_15 ⟨Nat.zero_le _, Nat.zero_le _⟩ (fun H locs hd => ?_)
    generalize S1 = S at h hd
    refine lv_if_eq (tgt := 30) hx hb dX10_common_18 (by decide) (fun c4 => ?_) (fun c4 => ?_)
    · rw [if_pos c4] at h
      exact sBX10_common_30 C hr  hd (lv_sub hl [0] rfl) h
    · rw [if_neg c4] at h
      refine lv_aload_n hx hb dX10_common_21 rfl (lv_at hl 0 rfl) ?_
      refine lv_iload_n hx hb dX10_common_22 rfl (lv_at hl 1 rfl) ?_
      refine lv_iload_n hx hb dX10_common_23 rfl (lv_at hl 2 rfl) ?_
      obtain ⟨x5, S1, hc, h⟩ := bd_some h
      refine R_cVi C hd (ccX10_commonOf l G  hc) kX10_441 rfl (by decide) (rfl : kd 142 = 10) hl.1 ⟨by decide, by decide⟩ rfl rfl (Nat.le_of_ble_eq_true rfl) dX10_common_24 ⟨Nat.zero_le _, Nat.zero_le _⟩ (fun H locs hd => ?_)
      generalize S1 = S at h hd
      refine lv_goto (tgt := 35) hx hb dX10_common_27 (by decide) ?_
      exact R_iret C hr hd h dX10_common_35
set_option maxRecDepth 20000 in
theorem ccX10_common (l : Launch) (G : Gt) {a1 : Int32} {a2 : Int32} {S : St} {res : (Int32 × St)}  (h : fX10_common a1 a2 S = some res) : Met l yX10_common (wm yX10_common cX10_common 3 (some .int)) (rmL 5 0 0) (PcW G S [.ref (gR G 142), .int a1, .int a2]) (QI G res.1 res.2) 0 0 (Ab G) := by
  refine Met.ofW (cc := cX10_common) (maxL := 3) (ret := (some .int)) (by decide) rfl ?_
  intro p e s m args below meth c s₁ B hml hv
  obtain ⟨rfl, hK, hP⟩ := hv
  have C : Cx p s m _ meth c cX10_common 3 RX10 G := ⟨⟨B.exec, B.bytes, hml, findClass_of_methodNamed B.named, fun w hw => atoms_spec (ws := wm yX10_common cX10_common 3 (some .int)) B.pre w (List.mem_cons_of_mem _ hw)⟩, B.notSynchronized, hK⟩
  have hl := lv_entry ([.ref (gR G 142), .int a1, .int a2]) (n := 3) (Nat.le_of_ble_eq_true rfl)
  rw [lg_entry_eq]
  generalize (lg_sl ([.ref (gR G 142), .int a1, .int a2]) ++ List.replicate (3 - (lg_sl ([.ref (gR G 142), .int a1, .int a2])).length) Slot.unset).toArray = ls at hl ⊢
  exact sfX10_common C B.returns  ⟨hP, va_S.rf⟩ hl h
def BX10_nearest_67 (r11 : Int32 → Int32 → Int32 → St → Option (Int32 × St)) (r26 : Int32 → Int32 → Int32 → Int32 → St → Option (Int32 × St)) (l1 : Int32) (l2 : Int32) (l3 : Int32) (l4 : Int32) (S : St) : Option (Int32 × St) :=
  vl (l4 + 1) fun x1 => (r26 l1 l2 l3 x1 S)
set_option maxHeartbeats 4000000 in
set_option maxRecDepth 20000 in
theorem sBX10_nearest_67 (C : Cx p s m args meth c cX10_nearest 5 RX10 G) (hr : meth.sig.returnType = some .int) {r11 : Int32 → Int32 → Int32 → St → Option (Int32 × St)} {r26 : Int32 → Int32 → Int32 → Int32 → St → Option (Int32 × St)} (hr11 : ∀ (l1 : Int32) (l2 : Int32) (l3 : Int32) (S : St) (res : (Int32 × St)) (H : Heap) (locs : List Loc) (ls : Array Slot), Dy G S s H locs → lv_has ls 5 [(0, .ref (gR G 142)), (1, .int l1), (2, .int l2), (3, .int l3)] → r11 l1 l2 l3 S = some res → W p l e (rmL 4 0 0) s m args below meth c H locs 0 0 (MQ below (QI G res.1 res.2) args s 0 0 (Ab G)) (F0 m 11 ls [])) (hr26 : ∀ (l1 : Int32) (l2 : Int32) (l3 : Int32) (l4 : Int32) (S : St) (res : (Int32 × St)) (H : Heap) (locs : List Loc) (ls : Array Slot), Dy G S s H locs → lv_has ls 5 [(0, .ref (gR G 142)), (1, .int l1), (2, .int l2), (3, .int l3), (4, .int l4)] → r26 l1 l2 l3 l4 S = some res → W p l e (rmL 4 0 0) s m args below meth c H locs 0 0 (MQ below (QI G res.1 res.2) args s 0 0 (Ab G)) (F0 m 26 ls [])) {l1 : Int32} {l2 : Int32} {l3 : Int32} {l4 : Int32} {S : St} {res : (Int32 × St)} {H : Heap} {locs : List Loc} {ls : Array Slot}  (hd : Dy G S s H locs) (hl : lv_has ls 5 [(0, .ref (gR G 142)), (1, .int l1), (2, .int l2), (3, .int l3), (4, .int l4)]) (h : BX10_nearest_67 r11 r26 l1 l2 l3 l4 S = some res) : W p l e (rmL 4 0 0) s m args below meth c H locs 0 0 (MQ below (QI G res.1 res.2) args s 0 0 (Ab G)) (F0 m 67 ls []) := by
  unfold BX10_nearest_67 at h
  have hx := C.1.1
  have hb := C.1.2.1
  refine R_vi h (fun x1 ex1 h => ?_)
  refine lv_iinc (v := x1) (lv' := [(4, .int x1), (0, .ref (gR G 142)), (1, .int l1), (2, .int l2), (3, .int l3)]) hx hb dX10_nearest_67 hl (k := 4) rfl (by rw [ex1]; rfl) (by decide) rfl (fun ls hl => ?_)
  refine lv_goto (tgt := 26) hx hb dX10_nearest_70 (by decide) ?_
  exact hr26 l1 l2 l3 x1 _ _ _ _ _  hd (lv_sub hl [1, 2, 3, 4, 0] rfl) h
def KX10_nearest_26 (r11 : Int32 → Int32 → Int32 → St → Option (Int32 × St)) (r26 : Int32 → Int32 → Int32 → Int32 → St → Option (Int32 × St)) (l1 : Int32) (l2 : Int32) (l3 : Int32) (l4 : Int32) (S : St) : Option (Int32 × St) :=
  rd S 145 0 fun x2 => (if x2 ≤ l4 then vl (l3 + 1) fun x4 => (r11 l1 l2 x4 S) else bd (fX10_commonOf l3 l4 S) fun x5 S => (if l2 < x5 then vl ((10 * l3) + l4) fun x7 => bd (fX10_commonOf l3 l4 S) fun x8 S => (BX10_nearest_67 r11 r26 x7 x8 l3 l4 S) else (BX10_nearest_67 r11 r26 l1 l2 l3 l4 S)))
set_option maxHeartbeats 4000000 in
set_option maxRecDepth 20000 in
theorem sKX10_nearest_26 (C : Cx p s m args meth c cX10_nearest 5 RX10 G) (hr : meth.sig.returnType = some .int) {r11 : Int32 → Int32 → Int32 → St → Option (Int32 × St)} {r26 : Int32 → Int32 → Int32 → Int32 → St → Option (Int32 × St)} (hr11 : ∀ (l1 : Int32) (l2 : Int32) (l3 : Int32) (S : St) (res : (Int32 × St)) (H : Heap) (locs : List Loc) (ls : Array Slot), Dy G S s H locs → lv_has ls 5 [(0, .ref (gR G 142)), (1, .int l1), (2, .int l2), (3, .int l3)] → r11 l1 l2 l3 S = some res → W p l e (rmL 4 0 0) s m args below meth c H locs 0 0 (MQ below (QI G res.1 res.2) args s 0 0 (Ab G)) (F0 m 11 ls [])) (hr26 : ∀ (l1 : Int32) (l2 : Int32) (l3 : Int32) (l4 : Int32) (S : St) (res : (Int32 × St)) (H : Heap) (locs : List Loc) (ls : Array Slot), Dy G S s H locs → lv_has ls 5 [(0, .ref (gR G 142)), (1, .int l1), (2, .int l2), (3, .int l3), (4, .int l4)] → r26 l1 l2 l3 l4 S = some res → W p l e (rmL 4 0 0) s m args below meth c H locs 0 0 (MQ below (QI G res.1 res.2) args s 0 0 (Ab G)) (F0 m 26 ls [])) {l1 : Int32} {l2 : Int32} {l3 : Int32} {l4 : Int32} {S : St} {res : (Int32 × St)} {H : Heap} {locs : List Loc} {ls : Array Slot}  (hd : Dy G S s H locs) (hl : lv_has ls 5 [(0, .ref (gR G 142)), (1, .int l1), (2, .int l2), (3, .int l3), (4, .int l4)]) (h : KX10_nearest_26 r11 r26 l1 l2 l3 l4 S = some res) : W p l e (rmL 4 0 0) s m args below meth c H locs 0 0 (MQ below (QI G res.1 res.2) args s 0 0 (Ab G)) (F0 m 26 ls []) := by
  unfold KX10_nearest_26 at h
  have hx := C.1.1
  have hb := C.1.2.1
  refine lv_iload hx hb dX10_nearest_26 (lv_at hl 4 rfl) ?_
  refine lv_aload_n hx hb dX10_nearest_28 rfl (lv_at hl 0 rfl) ?_
  refine gX10_39 C hd (rfl : kd 142 = 10) (q := 145) rfl dX10_nearest_29 (fun y1 => ?_)
  refine lv_iconst (v := 0) hx hb dX10_nearest_32 (by decide) ?_
  refine R_iald C hd y1 h dX10_nearest_33 (fun x2 h => ?_)
  refine lv_icmp_ge (tgt := 73) hx hb dX10_nearest_34 (by decide) (fun c3 => ?_) (fun c3 => ?_)
  · rw [if_pos c3] at h
    refine R_vi h (fun x4 ex4 h => ?_)
    refine lv_iinc (v := x4) (lv' := [(3, .int x4), (0, .ref (gR G 142)), (1, .int l1), (2, .int l2), (4, .int l4)]) hx hb dX10_nearest_73 hl (k := 3) rfl (by rw [ex4]; rfl) (by decide) rfl (fun ls hl => ?_)
    refine lv_goto (tgt := 11) hx hb dX10_nearest_76 (by decide) ?_
    exact hr11 l1 l2 x4 _ _ _ _ _  hd (lv_sub hl [1, 2, 3, 0] rfl) h
  · rw [if_neg c3] at h
    refine lv_aload_n hx hb dX10_nearest_37 rfl (lv_at hl 0 rfl) ?_
    refine lv_iload_n hx hb dX10_nearest_38 rfl (lv_at hl 3 rfl) ?_
    refine lv_iload hx hb dX10_nearest_39 (lv_at hl 4 rfl) ?_
    obtain ⟨x5, S1, hc, h⟩ := bd_some h
    refine R_cVi C hd (ccX10_commonOf l G  hc) kX10_441 rfl (by decide) (rfl : kd 142 = 10) hl.1 ⟨by decide, by decide⟩ rfl rfl (Nat.le_of_ble_eq_true rfl) dX10_nearest_41 ⟨Nat.zero_le _, Nat.zero_le _⟩ (fun H locs hd => ?_)
    generalize S1 = S at h hd
    refine lv_iload_n hx hb dX10_nearest_44 rfl (lv_at hl 2 rfl) ?_
    refine lv_icmp_gt (tgt := 51) hx hb dX10_nearest_45 (by decide) (fun c6 => ?_) (fun c6 => ?_)
    · rw [if_pos c6] at h
      refine lv_bipush (v := 10) hx hb dX10_nearest_51 (by decide) ?_
      refine lv_iload_n hx hb dX10_nearest_53 rfl (lv_at hl 3 rfl) ?_
      refine lv_imul hx hb dX10_nearest_54 ?_
      refine lv_iload hx hb dX10_nearest_55 (lv_at hl 4 rfl) ?_
      refine lv_iadd hx hb dX10_nearest_57 ?_
      refine R_vl h (fun x7 h => ?_)
      refine lv_istore_n (lv' := [(1, .int x7), (0, .ref (gR G 142)), (2, .int l2), (3, .int l3), (4, .int l4)]) hx hb dX10_nearest_58 rfl hl (by decide) rfl (fun ls hl => ?_)
      refine lv_aload_n hx hb dX10_nearest_59 rfl (lv_at hl 1 rfl) ?_
      refine lv_iload_n hx hb dX10_nearest_60 rfl (lv_at hl 3 rfl) ?_
      refine lv_iload hx hb dX10_nearest_61 (lv_at hl 4 rfl) ?_
      obtain ⟨x8, S1, hc, h⟩ := bd_some h
      refine R_cVi C hd (ccX10_commonOf l G  hc) kX10_441 rfl (by decide) (rfl : kd 142 = 10) hl.1 ⟨by decide, by decide⟩ rfl rfl (Nat.le_of_ble_eq_true rfl) dX10_nearest_63 ⟨Nat.zero_le _, Nat.zero_le _⟩ (fun H locs hd => ?_)
      generalize S1 = S at h hd
      refine lv_istore_n (lv' := [(2, .int x8), (1, .int x7), (0, .ref (gR G 142)), (3, .int l3), (4, .int l4)]) hx hb dX10_nearest_66 rfl hl (by decide) rfl (fun ls hl => ?_)
      exact sBX10_nearest_67 C hr hr11 hr26  hd (lv_sub hl [2, 1, 0, 3, 4] rfl) h
    · rw [if_neg c6] at h
      refine lv_goto (tgt := 67) hx hb dX10_nearest_48 (by decide) ?_
      exact sBX10_nearest_67 C hr hr11 hr26  hd (lv_sub hl [0, 1, 2, 3, 4] rfl) h
def LX10_nearest_26 (r11 : Int32 → Int32 → Int32 → St → Option (Int32 × St)) : Nat → Int32 → Int32 → Int32 → Int32 → St → Option (Int32 × St)
  | 0 => fun _ _ _ _ _ => none
  | n + 1 => fun l1 l2 l3 l4 S => KX10_nearest_26 r11 (LX10_nearest_26 r11 n) l1 l2 l3 l4 S
theorem sLX10_nearest_26 (C : Cx p s m args meth c cX10_nearest 5 RX10 G) (hr : meth.sig.returnType = some .int) {r11 : Int32 → Int32 → Int32 → St → Option (Int32 × St)} (hr11 : ∀ (l1 : Int32) (l2 : Int32) (l3 : Int32) (S : St) (res : (Int32 × St)) (H : Heap) (locs : List Loc) (ls : Array Slot), Dy G S s H locs → lv_has ls 5 [(0, .ref (gR G 142)), (1, .int l1), (2, .int l2), (3, .int l3)] → r11 l1 l2 l3 S = some res → W p l e (rmL 4 0 0) s m args below meth c H locs 0 0 (MQ below (QI G res.1 res.2) args s 0 0 (Ab G)) (F0 m 11 ls [])) : ∀ (n : Nat) (l1 : Int32) (l2 : Int32) (l3 : Int32) (l4 : Int32) (S : St) (res : (Int32 × St)) (H : Heap) (locs : List Loc) (ls : Array Slot), Dy G S s H locs → lv_has ls 5 [(0, .ref (gR G 142)), (1, .int l1), (2, .int l2), (3, .int l3), (4, .int l4)] → LX10_nearest_26 r11 n l1 l2 l3 l4 S = some res → W p l e (rmL 4 0 0) s m args below meth c H locs 0 0 (MQ below (QI G res.1 res.2) args s 0 0 (Ab G)) (F0 m 26 ls []) := by
  intro n
  induction n with
  | zero => intro l1 l2 l3 l4 S res H locs ls  hd hl h; cases h
  | succ n ih =>
    intro l1 l2 l3 l4 S res H locs ls  hd hl h
    exact sKX10_nearest_26 C hr hr11 ih  hd hl h
def KX10_nearest_11 (r11 : Int32 → Int32 → Int32 → St → Option (Int32 × St)) (l1 : Int32) (l2 : Int32) (l3 : Int32) (S : St) : Option (Int32 × St) :=
  rd S 145 0 fun x2 => (if x2 ≤ l3 then ri l1 S else vl (l3 + 1) fun x4 => (LX10_nearest_26 r11 FU l1 l2 l3 x4 S))
set_option maxHeartbeats 4000000 in
set_option maxRecDepth 20000 in
theorem sKX10_nearest_11 (C : Cx p s m args meth c cX10_nearest 5 RX10 G) (hr : meth.sig.returnType = some .int) {r11 : Int32 → Int32 → Int32 → St → Option (Int32 × St)} (hr11 : ∀ (l1 : Int32) (l2 : Int32) (l3 : Int32) (S : St) (res : (Int32 × St)) (H : Heap) (locs : List Loc) (ls : Array Slot), Dy G S s H locs → lv_has ls 5 [(0, .ref (gR G 142)), (1, .int l1), (2, .int l2), (3, .int l3)] → r11 l1 l2 l3 S = some res → W p l e (rmL 4 0 0) s m args below meth c H locs 0 0 (MQ below (QI G res.1 res.2) args s 0 0 (Ab G)) (F0 m 11 ls [])) {l1 : Int32} {l2 : Int32} {l3 : Int32} {S : St} {res : (Int32 × St)} {H : Heap} {locs : List Loc} {ls : Array Slot}  (hd : Dy G S s H locs) (hl : lv_has ls 5 [(0, .ref (gR G 142)), (1, .int l1), (2, .int l2), (3, .int l3)]) (h : KX10_nearest_11 r11 l1 l2 l3 S = some res) : W p l e (rmL 4 0 0) s m args below meth c H locs 0 0 (MQ below (QI G res.1 res.2) args s 0 0 (Ab G)) (F0 m 11 ls []) := by
  unfold KX10_nearest_11 at h
  have hx := C.1.1
  have hb := C.1.2.1
  refine lv_iload_n hx hb dX10_nearest_11 rfl (lv_at hl 3 rfl) ?_
  refine lv_aload_n hx hb dX10_nearest_12 rfl (lv_at hl 0 rfl) ?_
  refine gX10_39 C hd (rfl : kd 142 = 10) (q := 145) rfl dX10_nearest_13 (fun y1 => ?_)
  refine lv_iconst (v := 0) hx hb dX10_nearest_16 (by decide) ?_
  refine R_iald C hd y1 h dX10_nearest_17 (fun x2 h => ?_)
  refine lv_icmp_ge (tgt := 79) hx hb dX10_nearest_18 (by decide) (fun c3 => ?_) (fun c3 => ?_)
  · rw [if_pos c3] at h
    refine lv_iload_n hx hb dX10_nearest_79 rfl (lv_at hl 1 rfl) ?_
    exact R_iret C hr hd h dX10_nearest_80
  · rw [if_neg c3] at h
    refine lv_iload_n hx hb dX10_nearest_21 rfl (lv_at hl 3 rfl) ?_
    refine lv_iconst (v := 1) hx hb dX10_nearest_22 (by decide) ?_
    refine lv_iadd hx hb dX10_nearest_23 ?_
    refine R_vl h (fun x4 h => ?_)
    refine lv_istore (lv' := [(4, .int x4), (0, .ref (gR G 142)), (1, .int l1), (2, .int l2), (3, .int l3)]) hx hb dX10_nearest_24 hl (by decide) rfl (fun ls hl => ?_)
    exact sLX10_nearest_26 C hr hr11 _ l1 l2 l3 x4 _ _ _ _ _  hd (lv_sub hl [1, 2, 3, 4, 0] rfl) h
def LX10_nearest_11 : Nat → Int32 → Int32 → Int32 → St → Option (Int32 × St)
  | 0 => fun _ _ _ _ => none
  | n + 1 => fun l1 l2 l3 S => KX10_nearest_11 (LX10_nearest_11 n) l1 l2 l3 S
theorem sLX10_nearest_11 (C : Cx p s m args meth c cX10_nearest 5 RX10 G) (hr : meth.sig.returnType = some .int) : ∀ (n : Nat) (l1 : Int32) (l2 : Int32) (l3 : Int32) (S : St) (res : (Int32 × St)) (H : Heap) (locs : List Loc) (ls : Array Slot), Dy G S s H locs → lv_has ls 5 [(0, .ref (gR G 142)), (1, .int l1), (2, .int l2), (3, .int l3)] → LX10_nearest_11 n l1 l2 l3 S = some res → W p l e (rmL 4 0 0) s m args below meth c H locs 0 0 (MQ below (QI G res.1 res.2) args s 0 0 (Ab G)) (F0 m 11 ls []) := by
  intro n
  induction n with
  | zero => intro l1 l2 l3 S res H locs ls  hd hl h; cases h
  | succ n ih =>
    intro l1 l2 l3 S res H locs ls  hd hl h
    exact sKX10_nearest_11 C hr ih  hd hl h
def fX10_nearest  (S : St) : Option (Int32 × St) :=
  pf S 142 3 0 fun S => (LX10_nearest_11 FU ((-1)) ((-1)) 0 S)
set_option maxHeartbeats 4000000 in
set_option maxRecDepth 20000 in
theorem sfX10_nearest (C : Cx p s m args meth c cX10_nearest 5 RX10 G) (hr : meth.sig.returnType = some .int)  {S : St} {res : (Int32 × St)} {H : Heap} {locs : List Loc} {ls : Array Slot}  (hd : Dy G S s H locs) (hl : lv_has ls 5 [(0, .ref (gR G 142))]) (h : fX10_nearest  S = some res) : W p l e (rmL 4 0 0) s m args below meth c H locs 0 0 (MQ below (QI G res.1 res.2) args s 0 0 (Ab G)) (F0 m 0 ls []) := by
  unfold fX10_nearest at h
  have hx := C.1.1
  have hb := C.1.2.1
  refine lv_aload_n hx hb dX10_nearest_0 rfl (lv_at hl 0 rfl) ?_
  refine lv_iconst (v := 0) hx hb dX10_nearest_1 (by decide) ?_
  refine pX10_167 C hd (rfl : kd 142 = 10) h dX10_nearest_2 (fun S H locs hd h => ?_)
  refine lv_iconst (v := -1) hx hb dX10_nearest_5 (by decide) ?_
  refine lv_istore_n (lv' := [(1, .int ((-1))), (0, .ref (gR G 142))]) hx hb dX10_nearest_6 rfl hl (by decide) rfl (fun ls hl => ?_)
  refine lv_iconst (v := -1) hx hb dX10_nearest_7 (by decide) ?_
  refine lv_istore_n (lv' := [(2, .int ((-1))), (1, .int ((-1))), (0, .ref (gR G 142))]) hx hb dX10_nearest_8 rfl hl (by decide) rfl (fun ls hl => ?_)
  refine lv_iconst (v := 0) hx hb dX10_nearest_9 (by decide) ?_
  refine lv_istore_n (lv' := [(3, .int 0), (2, .int ((-1))), (1, .int ((-1))), (0, .ref (gR G 142))]) hx hb dX10_nearest_10 rfl hl (by decide) rfl (fun ls hl => ?_)
  exact sLX10_nearest_11 C hr _ ((-1)) ((-1)) 0 _ _ _ _ _  hd (lv_sub hl [3, 2, 1, 0] rfl) h
set_option maxRecDepth 20000 in
theorem ccX10_nearest (l : Launch) (G : Gt)  {S : St} {res : (Int32 × St)}  (h : fX10_nearest  S = some res) : Met l yX10_nearest (wm yX10_nearest cX10_nearest 5 (some .int)) (rmL 4 0 0) (PcW G S [.ref (gR G 142)]) (QI G res.1 res.2) 0 0 (Ab G) := by
  refine Met.ofW (cc := cX10_nearest) (maxL := 5) (ret := (some .int)) (by decide) rfl ?_
  intro p e s m args below meth c s₁ B hml hv
  obtain ⟨rfl, hK, hP⟩ := hv
  have C : Cx p s m _ meth c cX10_nearest 5 RX10 G := ⟨⟨B.exec, B.bytes, hml, findClass_of_methodNamed B.named, fun w hw => atoms_spec (ws := wm yX10_nearest cX10_nearest 5 (some .int)) B.pre w (List.mem_cons_of_mem _ hw)⟩, B.notSynchronized, hK⟩
  have hl := lv_entry ([.ref (gR G 142)]) (n := 5) (Nat.le_of_ble_eq_true rfl)
  rw [lg_entry_eq]
  generalize (lg_sl ([.ref (gR G 142)]) ++ List.replicate (5 - (lg_sl ([.ref (gR G 142)])).length) Slot.unset).toArray = ls at hl ⊢
  exact sfX10_nearest C B.returns  ⟨hP, va_S.rf⟩ hl h
def BX10_far_21  (S : St) : Option (Int32 × St) :=
  bd (fX10_fail 1 S) fun x1 S => ri x1 S
set_option maxHeartbeats 4000000 in
set_option maxRecDepth 20000 in
theorem sBX10_far_21 (C : Cx p s m args meth c cX10_far 3 RX10 G) (hr : meth.sig.returnType = some .int)  {S : St} {res : (Int32 × St)} {H : Heap} {locs : List Loc} {ls : Array Slot}  (hd : Dy G S s H locs) (hl : lv_has ls 3 [(0, .ref (gR G 142))]) (h : BX10_far_21  S = some res) : W p l e (rmL 5 0 0) s m args below meth c H locs 0 0 (MQ below (QI G res.1 res.2) args s 0 0 (Ab G)) (F0 m 21 ls []) := by
  unfold BX10_far_21 at h
  have hx := C.1.1
  have hb := C.1.2.1
  refine lv_aload_n hx hb dX10_far_21 rfl (lv_at hl 0 rfl) ?_
  refine lv_iconst (v := 1) hx hb dX10_far_22 (by decide) ?_
  obtain ⟨x1, S1, hc, h⟩ := bd_some h
  refine R_cVi C hd (ccX10_fail l G  hc) kX10_325 rfl (by decide) (rfl : kd 142 = 10) hl.1 ⟨by decide, by decide⟩ rfl rfl (Nat.le_of_ble_eq_true rfl) dX10_far_23 ⟨Nat.zero_le _, Nat.zero_le _⟩ (fun H locs hd => ?_)
  generalize S1 = S at h hd
  exact R_iret C hr hd h dX10_far_26
def fX10_far (a1 : Int32) (a2 : Int32) (S : St) : Option (Int32 × St) :=
  pf S 142 3 0 fun S => bd (fX10_isField a1 S) fun x1 S => (if x1 = 0 then (BX10_far_21  S) else bd (fX10_isField a2 S) fun x3 S => (if x3 = 0 then (BX10_far_21  S) else rd S 164 ((8 * a1) + a2) fun x6 => (if x6 < 100000 then rd S 164 ((8 * a1) + a2) fun x9 => ri x9 S else ri ((-1)) S)))
set_option maxHeartbeats 4000000 in
set_option maxRecDepth 20000 in
theorem sfX10_far (C : Cx p s m args meth c cX10_far 3 RX10 G) (hr : meth.sig.returnType = some .int) {a1 : Int32} {a2 : Int32} {S : St} {res : (Int32 × St)} {H : Heap} {locs : List Loc} {ls : Array Slot}  (hd : Dy G S s H locs) (hl : lv_has ls 3 [(0, .ref (gR G 142)), (1, .int a1), (2, .int a2)]) (h : fX10_far a1 a2 S = some res) : W p l e (rmL 5 0 0) s m args below meth c H locs 0 0 (MQ below (QI G res.1 res.2) args s 0 0 (Ab G)) (F0 m 0 ls []) := by
  unfold fX10_far at h
  have hx := C.1.1
  have hb := C.1.2.1
  refine lv_aload_n hx hb dX10_far_0 rfl (lv_at hl 0 rfl) ?_
  refine lv_iconst (v := 0) hx hb dX10_far_1 (by decide) ?_
  refine pX10_167 C hd (rfl : kd 142 = 10) h dX10_far_2 (fun S H locs hd h => ?_)
  refine lv_aload_n hx hb dX10_far_5 rfl (lv_at hl 0 rfl) ?_
  refine lv_iload_n hx hb dX10_far_6 rfl (lv_at hl 1 rfl) ?_
  obtain ⟨x1, S1, hc, h⟩ := bd_some h
  refine R_cVi C hd (ccX10_isField l G  hc) kX10_392 rfl (by decide) (rfl : kd 142 = 10) hl.1 ⟨by decide, by decide⟩ rfl rfl (Nat.le_of_ble_eq_true rfl) dX10_far_7 ⟨Nat.zero_le _, Nat.zero_le _⟩ (fun H locs hd => ?_)
  generalize S1 = S at h hd
  refine lv_if_eq (tgt := 21) hx hb dX10_far_10 (by decide) (fun c2 => ?_) (fun c2 => ?_)
  · rw [if_pos c2] at h
    exact sBX10_far_21 C hr  hd (lv_sub hl [0] rfl) h
  · rw [if_neg c2] at h
    refine lv_aload_n hx hb dX10_far_13 rfl (lv_at hl 0 rfl) ?_
    refine lv_iload_n hx hb dX10_far_14 rfl (lv_at hl 2 rfl) ?_
    obtain ⟨x3, S1, hc, h⟩ := bd_some h
    refine R_cVi C hd (ccX10_isField l G  hc) kX10_392 rfl (by decide) (rfl : kd 142 = 10) hl.1 ⟨by decide, by decide⟩ rfl rfl (Nat.le_of_ble_eq_true rfl) dX10_far_15 ⟨Nat.zero_le _, Nat.zero_le _⟩ (fun H locs hd => ?_)
    generalize S1 = S at h hd
    refine lv_if_ne (tgt := 27) hx hb dX10_far_18 (by decide) (fun c4 => ?_) (fun c4 => ?_)
    · rw [if_neg c4] at h
      refine lv_aload_n hx hb dX10_far_27 rfl (lv_at hl 0 rfl) ?_
      refine gX10_98 C hd (rfl : kd 142 = 10) (q := 164) rfl dX10_far_28 (fun y5 => ?_)
      refine lv_bipush (v := 8) hx hb dX10_far_31 (by decide) ?_
      refine lv_iload_n hx hb dX10_far_33 rfl (lv_at hl 1 rfl) ?_
      refine lv_imul hx hb dX10_far_34 ?_
      refine lv_iload_n hx hb dX10_far_35 rfl (lv_at hl 2 rfl) ?_
      refine lv_iadd hx hb dX10_far_36 ?_
      refine R_iald C hd y5 h dX10_far_37 (fun x6 h => ?_)
      refine lv_ldc hx hb C.1.2.2.2.1 (C.1.2.2.2.2 _ kcX10_203) dX10_far_38 ?_
      refine lv_icmp_lt (tgt := 47) hx hb dX10_far_40 (by decide) (fun c7 => ?_) (fun c7 => ?_)
      · rw [if_pos c7] at h
        refine lv_aload_n hx hb dX10_far_47 rfl (lv_at hl 0 rfl) ?_
        refine gX10_98 C hd (rfl : kd 142 = 10) (q := 164) rfl dX10_far_48 (fun y8 => ?_)
        refine lv_bipush (v := 8) hx hb dX10_far_51 (by decide) ?_
        refine lv_iload_n hx hb dX10_far_53 rfl (lv_at hl 1 rfl) ?_
        refine lv_imul hx hb dX10_far_54 ?_
        refine lv_iload_n hx hb dX10_far_55 rfl (lv_at hl 2 rfl) ?_
        refine lv_iadd hx hb dX10_far_56 ?_
        refine R_iald C hd y8 h dX10_far_57 (fun x9 h => ?_)
        exact R_iret C hr hd h dX10_far_58
      · rw [if_neg c7] at h
        refine lv_iconst (v := -1) hx hb dX10_far_43 (by decide) ?_
        refine lv_goto (tgt := 58) hx hb dX10_far_44 (by decide) ?_
        exact R_iret C hr hd h dX10_far_58
    · rw [if_pos c4] at h
      exact sBX10_far_21 C hr  hd (lv_sub hl [0] rfl) h
set_option maxRecDepth 20000 in
theorem ccX10_far (l : Launch) (G : Gt) {a1 : Int32} {a2 : Int32} {S : St} {res : (Int32 × St)}  (h : fX10_far a1 a2 S = some res) : Met l yX10_far (wm yX10_far cX10_far 3 (some .int)) (rmL 5 0 0) (PcW G S [.ref (gR G 142), .int a1, .int a2]) (QI G res.1 res.2) 0 0 (Ab G) := by
  refine Met.ofW (cc := cX10_far) (maxL := 3) (ret := (some .int)) (by decide) rfl ?_
  intro p e s m args below meth c s₁ B hml hv
  obtain ⟨rfl, hK, hP⟩ := hv
  have C : Cx p s m _ meth c cX10_far 3 RX10 G := ⟨⟨B.exec, B.bytes, hml, findClass_of_methodNamed B.named, fun w hw => atoms_spec (ws := wm yX10_far cX10_far 3 (some .int)) B.pre w (List.mem_cons_of_mem _ hw)⟩, B.notSynchronized, hK⟩
  have hl := lv_entry ([.ref (gR G 142), .int a1, .int a2]) (n := 3) (Nat.le_of_ble_eq_true rfl)
  rw [lg_entry_eq]
  generalize (lg_sl ([.ref (gR G 142), .int a1, .int a2]) ++ List.replicate (3 - (lg_sl ([.ref (gR G 142), .int a1, .int a2])).length) Slot.unset).toArray = ls at hl ⊢
  exact sfX10_far C B.returns  ⟨hP, va_S.rf⟩ hl h
def KX10_round_200 (r200 : Int32 → Int32 → Int32 → Int32 → St → Option (Int32 × St)) (l1 : Int32) (l2 : Int32) (l3 : Int32) (l4 : Int32) (S : St) : Option (Int32 × St) :=
  rd S 145 0 fun x2 => (if x2 ≤ l4 then (if l3 < 100000 then ri l3 S else ri ((-1)) S) else rd S 171 ((8 * l2) + l4) fun x6 => rd S 164 ((8 * l4) + l1) fun x8 => vl (if (x6 + x8) < l3 then x6 + x8 else l3) fun x9 => vl (l4 + 1) fun x10 => (r200 l1 l2 x9 x10 S))
set_option maxHeartbeats 4000000 in
set_option maxRecDepth 20000 in
theorem sKX10_round_200 (C : Cx p s m args meth c cX10_round 7 RX10 G) (hr : meth.sig.returnType = some .int) {r200 : Int32 → Int32 → Int32 → Int32 → St → Option (Int32 × St)} (hr200 : ∀ (l1 : Int32) (l2 : Int32) (l3 : Int32) (l4 : Int32) (S : St) (res : (Int32 × St)) (H : Heap) (locs : List Loc) (ls : Array Slot), Dy G S s H locs → lv_has ls 7 [(0, .ref (gR G 142)), (1, .int l1), (2, .int l2), (3, .int l3), (4, .int l4)] → r200 l1 l2 l3 l4 S = some res → W p l e (rmL 5 0 0) s m args below meth c H locs 0 0 (MQ below (QI G res.1 res.2) args s 0 0 (Ab G)) (F0 m 200 ls [])) {l1 : Int32} {l2 : Int32} {l3 : Int32} {l4 : Int32} {S : St} {res : (Int32 × St)} {H : Heap} {locs : List Loc} {ls : Array Slot}  (hd : Dy G S s H locs) (hl : lv_has ls 7 [(0, .ref (gR G 142)), (1, .int l1), (2, .int l2), (3, .int l3), (4, .int l4)]) (h : KX10_round_200 r200 l1 l2 l3 l4 S = some res) : W p l e (rmL 5 0 0) s m args below meth c H locs 0 0 (MQ below (QI G res.1 res.2) args s 0 0 (Ab G)) (F0 m 200 ls []) := by
  unfold KX10_round_200 at h
  have hx := C.1.1
  have hb := C.1.2.1
  refine lv_iload hx hb dX10_round_200 (lv_at hl 4 rfl) ?_
  refine lv_aload_n hx hb dX10_round_202 rfl (lv_at hl 0 rfl) ?_
  refine gX10_39 C hd (rfl : kd 142 = 10) (q := 145) rfl dX10_round_203 (fun y1 => ?_)
  refine lv_iconst (v := 0) hx hb dX10_round_206 (by decide) ?_
  refine R_iald C hd y1 h dX10_round_207 (fun x2 h => ?_)
  refine lv_icmp_ge (tgt := 247) hx hb dX10_round_208 (by decide) (fun c3 => ?_) (fun c3 => ?_)
  · rw [if_pos c3] at h
    refine lv_iload_n hx hb dX10_round_247 rfl (lv_at hl 3 rfl) ?_
    refine lv_ldc hx hb C.1.2.2.2.1 (C.1.2.2.2.2 _ kcX10_203) dX10_round_248 ?_
    refine lv_icmp_lt (tgt := 257) hx hb dX10_round_250 (by decide) (fun c4 => ?_) (fun c4 => ?_)
    · rw [if_pos c4] at h
      refine lv_iload_n hx hb dX10_round_257 rfl (lv_at hl 3 rfl) ?_
      exact R_iret C hr hd h dX10_round_258
    · rw [if_neg c4] at h
      refine lv_iconst (v := -1) hx hb dX10_round_253 (by decide) ?_
      refine lv_goto (tgt := 258) hx hb dX10_round_254 (by decide) ?_
      exact R_iret C hr hd h dX10_round_258
  · rw [if_neg c3] at h
    refine lv_iload_n hx hb dX10_round_211 rfl (lv_at hl 3 rfl) ?_
    refine lv_aload_n hx hb dX10_round_212 rfl (lv_at hl 0 rfl) ?_
    refine gX10_122 C hd (rfl : kd 142 = 10) (q := 171) rfl dX10_round_213 (fun y5 => ?_)
    refine lv_bipush (v := 8) hx hb dX10_round_216 (by decide) ?_
    refine lv_iload_n hx hb dX10_round_218 rfl (lv_at hl 2 rfl) ?_
    refine lv_imul hx hb dX10_round_219 ?_
    refine lv_iload hx hb dX10_round_220 (lv_at hl 4 rfl) ?_
    refine lv_iadd hx hb dX10_round_222 ?_
    refine R_iald C hd y5 h dX10_round_223 (fun x6 h => ?_)
    refine lv_aload_n hx hb dX10_round_224 rfl (lv_at hl 0 rfl) ?_
    refine gX10_98 C hd (rfl : kd 142 = 10) (q := 164) rfl dX10_round_225 (fun y7 => ?_)
    refine lv_bipush (v := 8) hx hb dX10_round_228 (by decide) ?_
    refine lv_iload hx hb dX10_round_230 (lv_at hl 4 rfl) ?_
    refine lv_imul hx hb dX10_round_232 ?_
    refine lv_iload_n hx hb dX10_round_233 rfl (lv_at hl 1 rfl) ?_
    refine lv_iadd hx hb dX10_round_234 ?_
    refine R_iald C hd y7 h dX10_round_235 (fun x8 h => ?_)
    refine lv_iadd hx hb dX10_round_236 ?_
    refine R_mmin C hl.1 kmX10_204 (Nat.le_of_ble_eq_true rfl) (Nat.le_of_ble_eq_true rfl) (Nat.le_of_ble_eq_true rfl) (Nat.le_of_ble_eq_true rfl) dX10_round_237 ?_
    refine R_vl h (fun x9 h => ?_)
    refine lv_istore_n (lv' := [(3, .int x9), (0, .ref (gR G 142)), (1, .int l1), (2, .int l2), (4, .int l4)]) hx hb dX10_round_240 rfl hl (by decide) rfl (fun ls hl => ?_)
    refine R_vi h (fun x10 ex10 h => ?_)
    refine lv_iinc (v := x10) (lv' := [(4, .int x10), (3, .int x9), (0, .ref (gR G 142)), (1, .int l1), (2, .int l2)]) hx hb dX10_round_241 hl (k := 4) rfl (by rw [ex10]; rfl) (by decide) rfl (fun ls hl => ?_)
    refine lv_goto (tgt := 200) hx hb dX10_round_244 (by decide) ?_
    exact hr200 l1 l2 x9 x10 _ _ _ _ _  hd (lv_sub hl [2, 3, 4, 1, 0] rfl) h
def LX10_round_200 : Nat → Int32 → Int32 → Int32 → Int32 → St → Option (Int32 × St)
  | 0 => fun _ _ _ _ _ => none
  | n + 1 => fun l1 l2 l3 l4 S => KX10_round_200 (LX10_round_200 n) l1 l2 l3 l4 S
theorem sLX10_round_200 (C : Cx p s m args meth c cX10_round 7 RX10 G) (hr : meth.sig.returnType = some .int) : ∀ (n : Nat) (l1 : Int32) (l2 : Int32) (l3 : Int32) (l4 : Int32) (S : St) (res : (Int32 × St)) (H : Heap) (locs : List Loc) (ls : Array Slot), Dy G S s H locs → lv_has ls 7 [(0, .ref (gR G 142)), (1, .int l1), (2, .int l2), (3, .int l3), (4, .int l4)] → LX10_round_200 n l1 l2 l3 l4 S = some res → W p l e (rmL 5 0 0) s m args below meth c H locs 0 0 (MQ below (QI G res.1 res.2) args s 0 0 (Ab G)) (F0 m 200 ls []) := by
  intro n
  induction n with
  | zero => intro l1 l2 l3 l4 S res H locs ls  hd hl h; cases h
  | succ n ih =>
    intro l1 l2 l3 l4 S res H locs ls  hd hl h
    exact sKX10_round_200 C hr ih  hd hl h
def BX10_round_163 (r32 : Int32 → Int32 → Int32 → St → Option (Int32 × St)) (r40 : Int32 → Int32 → Int32 → Int32 → St → Option (Int32 × St)) (l1 : Int32) (l2 : Int32) (l3 : Int32) (l4 : Int32) (l5 : Int32) (S : St) : Option (Int32 × St) :=
  vl (if l5 < 100000 then l5 else 100000) fun x2 => wr S 171 ((8 * l3) + l4) x2 fun S => vl (l4 + 1) fun x3 => (r40 l1 l2 l3 x3 S)
set_option maxHeartbeats 4000000 in
set_option maxRecDepth 20000 in
theorem sBX10_round_163 (C : Cx p s m args meth c cX10_round 7 RX10 G) (hr : meth.sig.returnType = some .int) {r32 : Int32 → Int32 → Int32 → St → Option (Int32 × St)} {r40 : Int32 → Int32 → Int32 → Int32 → St → Option (Int32 × St)} (hr32 : ∀ (l1 : Int32) (l2 : Int32) (l3 : Int32) (S : St) (res : (Int32 × St)) (H : Heap) (locs : List Loc) (ls : Array Slot), Dy G S s H locs → lv_has ls 7 [(0, .ref (gR G 142)), (1, .int l1), (2, .int l2), (3, .int l3)] → r32 l1 l2 l3 S = some res → W p l e (rmL 5 0 0) s m args below meth c H locs 0 0 (MQ below (QI G res.1 res.2) args s 0 0 (Ab G)) (F0 m 32 ls [])) (hr40 : ∀ (l1 : Int32) (l2 : Int32) (l3 : Int32) (l4 : Int32) (S : St) (res : (Int32 × St)) (H : Heap) (locs : List Loc) (ls : Array Slot), Dy G S s H locs → lv_has ls 7 [(0, .ref (gR G 142)), (1, .int l1), (2, .int l2), (3, .int l3), (4, .int l4)] → r40 l1 l2 l3 l4 S = some res → W p l e (rmL 5 0 0) s m args below meth c H locs 0 0 (MQ below (QI G res.1 res.2) args s 0 0 (Ab G)) (F0 m 40 ls [])) {l1 : Int32} {l2 : Int32} {l3 : Int32} {l4 : Int32} {l5 : Int32} {S : St} {res : (Int32 × St)} {H : Heap} {locs : List Loc} {ls : Array Slot}  (hd : Dy G S s H locs) (hl : lv_has ls 7 [(0, .ref (gR G 142)), (1, .int l1), (2, .int l2), (3, .int l3), (4, .int l4), (5, .int l5)]) (h : BX10_round_163 r32 r40 l1 l2 l3 l4 l5 S = some res) : W p l e (rmL 5 0 0) s m args below meth c H locs 0 0 (MQ below (QI G res.1 res.2) args s 0 0 (Ab G)) (F0 m 163 ls []) := by
  unfold BX10_round_163 at h
  have hx := C.1.1
  have hb := C.1.2.1
  refine lv_aload_n hx hb dX10_round_163 rfl (lv_at hl 0 rfl) ?_
  refine gX10_122 C hd (rfl : kd 142 = 10) (q := 171) rfl dX10_round_164 (fun y1 => ?_)
  refine lv_bipush (v := 8) hx hb dX10_round_167 (by decide) ?_
  refine lv_iload_n hx hb dX10_round_169 rfl (lv_at hl 3 rfl) ?_
  refine lv_imul hx hb dX10_round_170 ?_
  refine lv_iload hx hb dX10_round_171 (lv_at hl 4 rfl) ?_
  refine lv_iadd hx hb dX10_round_173 ?_
  refine lv_ldc hx hb C.1.2.2.2.1 (C.1.2.2.2.2 _ kcX10_203) dX10_round_174 ?_
  refine lv_iload hx hb dX10_round_176 (lv_at hl 5 rfl) ?_
  refine R_mmin C hl.1 kmX10_204 (Nat.le_of_ble_eq_true rfl) (Nat.le_of_ble_eq_true rfl) (Nat.le_of_ble_eq_true rfl) (Nat.le_of_ble_eq_true rfl) dX10_round_178 ?_
  refine R_vl h (fun x2 h => ?_)
  refine R_iast C hd y1 h dX10_round_181 (fun S H locs hd h => ?_)
  refine R_vi h (fun x3 ex3 h => ?_)
  refine lv_iinc (v := x3) (lv' := [(4, .int x3), (0, .ref (gR G 142)), (1, .int l1), (2, .int l2), (3, .int l3), (5, .int l5)]) hx hb dX10_round_182 hl (k := 4) rfl (by rw [ex3]; rfl) (by decide) rfl (fun ls hl => ?_)
  refine lv_goto (tgt := 40) hx hb dX10_round_185 (by decide) ?_
  exact hr40 l1 l2 l3 x3 _ _ _ _ _  hd (lv_sub hl [1, 2, 3, 4, 0] rfl) h
def BX10_round_157 (r32 : Int32 → Int32 → Int32 → St → Option (Int32 × St)) (r40 : Int32 → Int32 → Int32 → Int32 → St → Option (Int32 × St)) (r81 : Int32 → Int32 → Int32 → Int32 → Int32 → Int32 → St → Option (Int32 × St)) (l1 : Int32) (l2 : Int32) (l3 : Int32) (l4 : Int32) (l5 : Int32) (l6 : Int32) (S : St) : Option (Int32 × St) :=
  vl (l6 + 1) fun x1 => (r81 l1 l2 l3 l4 l5 x1 S)
set_option maxHeartbeats 4000000 in
set_option maxRecDepth 20000 in
theorem sBX10_round_157 (C : Cx p s m args meth c cX10_round 7 RX10 G) (hr : meth.sig.returnType = some .int) {r32 : Int32 → Int32 → Int32 → St → Option (Int32 × St)} {r40 : Int32 → Int32 → Int32 → Int32 → St → Option (Int32 × St)} {r81 : Int32 → Int32 → Int32 → Int32 → Int32 → Int32 → St → Option (Int32 × St)} (hr32 : ∀ (l1 : Int32) (l2 : Int32) (l3 : Int32) (S : St) (res : (Int32 × St)) (H : Heap) (locs : List Loc) (ls : Array Slot), Dy G S s H locs → lv_has ls 7 [(0, .ref (gR G 142)), (1, .int l1), (2, .int l2), (3, .int l3)] → r32 l1 l2 l3 S = some res → W p l e (rmL 5 0 0) s m args below meth c H locs 0 0 (MQ below (QI G res.1 res.2) args s 0 0 (Ab G)) (F0 m 32 ls [])) (hr40 : ∀ (l1 : Int32) (l2 : Int32) (l3 : Int32) (l4 : Int32) (S : St) (res : (Int32 × St)) (H : Heap) (locs : List Loc) (ls : Array Slot), Dy G S s H locs → lv_has ls 7 [(0, .ref (gR G 142)), (1, .int l1), (2, .int l2), (3, .int l3), (4, .int l4)] → r40 l1 l2 l3 l4 S = some res → W p l e (rmL 5 0 0) s m args below meth c H locs 0 0 (MQ below (QI G res.1 res.2) args s 0 0 (Ab G)) (F0 m 40 ls [])) (hr81 : ∀ (l1 : Int32) (l2 : Int32) (l3 : Int32) (l4 : Int32) (l5 : Int32) (l6 : Int32) (S : St) (res : (Int32 × St)) (H : Heap) (locs : List Loc) (ls : Array Slot), Dy G S s H locs → lv_has ls 7 [(0, .ref (gR G 142)), (1, .int l1), (2, .int l2), (3, .int l3), (4, .int l4), (5, .int l5), (6, .int l6)] → r81 l1 l2 l3 l4 l5 l6 S = some res → W p l e (rmL 5 0 0) s m args below meth c H locs 0 0 (MQ below (QI G res.1 res.2) args s 0 0 (Ab G)) (F0 m 81 ls [])) {l1 : Int32} {l2 : Int32} {l3 : Int32} {l4 : Int32} {l5 : Int32} {l6 : Int32} {S : St} {res : (Int32 × St)} {H : Heap} {locs : List Loc} {ls : Array Slot}  (hd : Dy G S s H locs) (hl : lv_has ls 7 [(0, .ref (gR G 142)), (1, .int l1), (2, .int l2), (3, .int l3), (4, .int l4), (5, .int l5), (6, .int l6)]) (h : BX10_round_157 r32 r40 r81 l1 l2 l3 l4 l5 l6 S = some res) : W p l e (rmL 5 0 0) s m args below meth c H locs 0 0 (MQ below (QI G res.1 res.2) args s 0 0 (Ab G)) (F0 m 157 ls []) := by
  unfold BX10_round_157 at h
  have hx := C.1.1
  have hb := C.1.2.1
  refine R_vi h (fun x1 ex1 h => ?_)
  refine lv_iinc (v := x1) (lv' := [(6, .int x1), (0, .ref (gR G 142)), (1, .int l1), (2, .int l2), (3, .int l3), (4, .int l4), (5, .int l5)]) hx hb dX10_round_157 hl (k := 6) rfl (by rw [ex1]; rfl) (by decide) rfl (fun ls hl => ?_)
  refine lv_goto (tgt := 81) hx hb dX10_round_160 (by decide) ?_
  exact hr81 l1 l2 l3 l4 l5 x1 _ _ _ _ _  hd (lv_sub hl [1, 2, 3, 4, 5, 6, 0] rfl) h
def KX10_round_81 (r32 : Int32 → Int32 → Int32 → St → Option (Int32 × St)) (r40 : Int32 → Int32 → Int32 → Int32 → St → Option (Int32 × St)) (r81 : Int32 → Int32 → Int32 → Int32 → Int32 → Int32 → St → Option (Int32 × St)) (l1 : Int32) (l2 : Int32) (l3 : Int32) (l4 : Int32) (l5 : Int32) (l6 : Int32) (S : St) : Option (Int32 × St) :=
  rd S 145 0 fun x2 => (if x2 ≤ l6 then (BX10_round_163 r32 r40 l1 l2 l3 l4 l5 S) else bd (fX10_isOf l3 l4 S) fun x4 S => (if x4 = 0 then (BX10_round_163 r32 r40 l1 l2 l3 l4 l5 S) else (if l6 = l4 then (BX10_round_157 r32 r40 r81 l1 l2 l3 l4 l5 l6 S) else bd (fX10_isOf l3 l6 S) fun x7 S => (if x7 = 0 then (BX10_round_157 r32 r40 r81 l1 l2 l3 l4 l5 l6 S) else rd S 171 ((8 * (l3 &&& (((1 : Int32) <<< (l4 &&& 31)) ^^^ (-1)))) + l6) fun x10 => rd S 164 ((8 * l6) + l4) fun x12 => vl (if (x10 + x12) < l5 then x10 + x12 else l5) fun x13 => (BX10_round_157 r32 r40 r81 l1 l2 l3 l4 x13 l6 S)))))
set_option maxHeartbeats 4000000 in
set_option maxRecDepth 20000 in
theorem sKX10_round_81 (C : Cx p s m args meth c cX10_round 7 RX10 G) (hr : meth.sig.returnType = some .int) {r32 : Int32 → Int32 → Int32 → St → Option (Int32 × St)} {r40 : Int32 → Int32 → Int32 → Int32 → St → Option (Int32 × St)} {r81 : Int32 → Int32 → Int32 → Int32 → Int32 → Int32 → St → Option (Int32 × St)} (hr32 : ∀ (l1 : Int32) (l2 : Int32) (l3 : Int32) (S : St) (res : (Int32 × St)) (H : Heap) (locs : List Loc) (ls : Array Slot), Dy G S s H locs → lv_has ls 7 [(0, .ref (gR G 142)), (1, .int l1), (2, .int l2), (3, .int l3)] → r32 l1 l2 l3 S = some res → W p l e (rmL 5 0 0) s m args below meth c H locs 0 0 (MQ below (QI G res.1 res.2) args s 0 0 (Ab G)) (F0 m 32 ls [])) (hr40 : ∀ (l1 : Int32) (l2 : Int32) (l3 : Int32) (l4 : Int32) (S : St) (res : (Int32 × St)) (H : Heap) (locs : List Loc) (ls : Array Slot), Dy G S s H locs → lv_has ls 7 [(0, .ref (gR G 142)), (1, .int l1), (2, .int l2), (3, .int l3), (4, .int l4)] → r40 l1 l2 l3 l4 S = some res → W p l e (rmL 5 0 0) s m args below meth c H locs 0 0 (MQ below (QI G res.1 res.2) args s 0 0 (Ab G)) (F0 m 40 ls [])) (hr81 : ∀ (l1 : Int32) (l2 : Int32) (l3 : Int32) (l4 : Int32) (l5 : Int32) (l6 : Int32) (S : St) (res : (Int32 × St)) (H : Heap) (locs : List Loc) (ls : Array Slot), Dy G S s H locs → lv_has ls 7 [(0, .ref (gR G 142)), (1, .int l1), (2, .int l2), (3, .int l3), (4, .int l4), (5, .int l5), (6, .int l6)] → r81 l1 l2 l3 l4 l5 l6 S = some res → W p l e (rmL 5 0 0) s m args below meth c H locs 0 0 (MQ below (QI G res.1 res.2) args s 0 0 (Ab G)) (F0 m 81 ls [])) {l1 : Int32} {l2 : Int32} {l3 : Int32} {l4 : Int32} {l5 : Int32} {l6 : Int32} {S : St} {res : (Int32 × St)} {H : Heap} {locs : List Loc} {ls : Array Slot}  (hd : Dy G S s H locs) (hl : lv_has ls 7 [(0, .ref (gR G 142)), (1, .int l1), (2, .int l2), (3, .int l3), (4, .int l4), (5, .int l5), (6, .int l6)]) (h : KX10_round_81 r32 r40 r81 l1 l2 l3 l4 l5 l6 S = some res) : W p l e (rmL 5 0 0) s m args below meth c H locs 0 0 (MQ below (QI G res.1 res.2) args s 0 0 (Ab G)) (F0 m 81 ls []) := by
  unfold KX10_round_81 at h
  have hx := C.1.1
  have hb := C.1.2.1
  refine lv_iload hx hb dX10_round_81 (lv_at hl 6 rfl) ?_
  refine lv_aload_n hx hb dX10_round_83 rfl (lv_at hl 0 rfl) ?_
  refine gX10_39 C hd (rfl : kd 142 = 10) (q := 145) rfl dX10_round_84 (fun y1 => ?_)
  refine lv_iconst (v := 0) hx hb dX10_round_87 (by decide) ?_
  refine R_iald C hd y1 h dX10_round_88 (fun x2 h => ?_)
  refine lv_icmp_ge (tgt := 163) hx hb dX10_round_89 (by decide) (fun c3 => ?_) (fun c3 => ?_)
  · rw [if_pos c3] at h
    exact sBX10_round_163 C hr hr32 hr40  hd (lv_sub hl [0, 1, 2, 3, 4, 5] rfl) h
  · rw [if_neg c3] at h
    refine lv_iload_n hx hb dX10_round_92 rfl (lv_at hl 3 rfl) ?_
    refine lv_iload hx hb dX10_round_93 (lv_at hl 4 rfl) ?_
    obtain ⟨x4, S1, hc, h⟩ := bd_some h
    refine R_cSi C hd (ccX10_isOf l G  hc) kX10_298  hl.1 ⟨by decide, by decide⟩ rfl rfl (Nat.le_of_ble_eq_true rfl) dX10_round_95 ⟨Nat.zero_le _, Nat.zero_le _⟩ (fun H locs hd => ?_)
    generalize S1 = S at h hd
    refine lv_if_eq (tgt := 163) hx hb dX10_round_98 (by decide) (fun c5 => ?_) (fun c5 => ?_)
    · rw [if_pos c5] at h
      exact sBX10_round_163 C hr hr32 hr40  hd (lv_sub hl [0, 1, 2, 3, 4, 5] rfl) h
    · rw [if_neg c5] at h
      refine lv_iload hx hb dX10_round_101 (lv_at hl 6 rfl) ?_
      refine lv_iload hx hb dX10_round_103 (lv_at hl 4 rfl) ?_
      refine lv_icmp_eq (tgt := 157) hx hb dX10_round_105 (by decide) (fun c6 => ?_) (fun c6 => ?_)
      · rw [if_pos c6] at h
        exact sBX10_round_157 C hr hr32 hr40 hr81  hd (lv_sub hl [0, 1, 2, 3, 4, 5, 6] rfl) h
      · rw [if_neg c6] at h
        refine lv_iload_n hx hb dX10_round_108 rfl (lv_at hl 3 rfl) ?_
        refine lv_iload hx hb dX10_round_109 (lv_at hl 6 rfl) ?_
        obtain ⟨x7, S1, hc, h⟩ := bd_some h
        refine R_cSi C hd (ccX10_isOf l G  hc) kX10_298  hl.1 ⟨by decide, by decide⟩ rfl rfl (Nat.le_of_ble_eq_true rfl) dX10_round_111 ⟨Nat.zero_le _, Nat.zero_le _⟩ (fun H locs hd => ?_)
        generalize S1 = S at h hd
        refine lv_if_eq (tgt := 157) hx hb dX10_round_114 (by decide) (fun c8 => ?_) (fun c8 => ?_)
        · rw [if_pos c8] at h
          exact sBX10_round_157 C hr hr32 hr40 hr81  hd (lv_sub hl [0, 1, 2, 3, 4, 5, 6] rfl) h
        · rw [if_neg c8] at h
          refine lv_iload hx hb dX10_round_117 (lv_at hl 5 rfl) ?_
          refine lv_aload_n hx hb dX10_round_119 rfl (lv_at hl 0 rfl) ?_
          refine gX10_122 C hd (rfl : kd 142 = 10) (q := 171) rfl dX10_round_120 (fun y9 => ?_)
          refine lv_bipush (v := 8) hx hb dX10_round_123 (by decide) ?_
          refine lv_iload_n hx hb dX10_round_125 rfl (lv_at hl 3 rfl) ?_
          refine lv_iconst (v := 1) hx hb dX10_round_126 (by decide) ?_
          refine lv_iload hx hb dX10_round_127 (lv_at hl 4 rfl) ?_
          refine lv_ishl hx hb dX10_round_129 ?_
          refine lv_iconst (v := -1) hx hb dX10_round_130 (by decide) ?_
          refine lv_ixor hx hb dX10_round_131 ?_
          refine lv_iand hx hb dX10_round_132 ?_
          refine lv_imul hx hb dX10_round_133 ?_
          refine lv_iload hx hb dX10_round_134 (lv_at hl 6 rfl) ?_
          refine lv_iadd hx hb dX10_round_136 ?_
          refine R_iald C hd y9 h dX10_round_137 (fun x10 h => ?_)
          refine lv_aload_n hx hb dX10_round_138 rfl (lv_at hl 0 rfl) ?_
          refine gX10_98 C hd (rfl : kd 142 = 10) (q := 164) rfl dX10_round_139 (fun y11 => ?_)
          refine lv_bipush (v := 8) hx hb dX10_round_142 (by decide) ?_
          refine lv_iload hx hb dX10_round_144 (lv_at hl 6 rfl) ?_
          refine lv_imul hx hb dX10_round_146 ?_
          refine lv_iload hx hb dX10_round_147 (lv_at hl 4 rfl) ?_
          refine lv_iadd hx hb dX10_round_149 ?_
          refine R_iald C hd y11 h dX10_round_150 (fun x12 h => ?_)
          refine lv_iadd hx hb dX10_round_151 ?_
          refine R_mmin C hl.1 kmX10_204 (Nat.le_of_ble_eq_true rfl) (Nat.le_of_ble_eq_true rfl) (Nat.le_of_ble_eq_true rfl) (Nat.le_of_ble_eq_true rfl) dX10_round_152 ?_
          refine R_vl h (fun x13 h => ?_)
          refine lv_istore (lv' := [(5, .int x13), (0, .ref (gR G 142)), (1, .int l1), (2, .int l2), (3, .int l3), (4, .int l4), (6, .int l6)]) hx hb dX10_round_155 hl (by decide) rfl (fun ls hl => ?_)
          exact sBX10_round_157 C hr hr32 hr40 hr81  hd (lv_sub hl [1, 2, 3, 4, 5, 0, 6] rfl) h
def LX10_round_81 (r32 : Int32 → Int32 → Int32 → St → Option (Int32 × St)) (r40 : Int32 → Int32 → Int32 → Int32 → St → Option (Int32 × St)) : Nat → Int32 → Int32 → Int32 → Int32 → Int32 → Int32 → St → Option (Int32 × St)
  | 0 => fun _ _ _ _ _ _ _ => none
  | n + 1 => fun l1 l2 l3 l4 l5 l6 S => KX10_round_81 r32 r40 (LX10_round_81 r32 r40 n) l1 l2 l3 l4 l5 l6 S
theorem sLX10_round_81 (C : Cx p s m args meth c cX10_round 7 RX10 G) (hr : meth.sig.returnType = some .int) {r32 : Int32 → Int32 → Int32 → St → Option (Int32 × St)} {r40 : Int32 → Int32 → Int32 → Int32 → St → Option (Int32 × St)} (hr32 : ∀ (l1 : Int32) (l2 : Int32) (l3 : Int32) (S : St) (res : (Int32 × St)) (H : Heap) (locs : List Loc) (ls : Array Slot), Dy G S s H locs → lv_has ls 7 [(0, .ref (gR G 142)), (1, .int l1), (2, .int l2), (3, .int l3)] → r32 l1 l2 l3 S = some res → W p l e (rmL 5 0 0) s m args below meth c H locs 0 0 (MQ below (QI G res.1 res.2) args s 0 0 (Ab G)) (F0 m 32 ls [])) (hr40 : ∀ (l1 : Int32) (l2 : Int32) (l3 : Int32) (l4 : Int32) (S : St) (res : (Int32 × St)) (H : Heap) (locs : List Loc) (ls : Array Slot), Dy G S s H locs → lv_has ls 7 [(0, .ref (gR G 142)), (1, .int l1), (2, .int l2), (3, .int l3), (4, .int l4)] → r40 l1 l2 l3 l4 S = some res → W p l e (rmL 5 0 0) s m args below meth c H locs 0 0 (MQ below (QI G res.1 res.2) args s 0 0 (Ab G)) (F0 m 40 ls [])) : ∀ (n : Nat) (l1 : Int32) (l2 : Int32) (l3 : Int32) (l4 : Int32) (l5 : Int32) (l6 : Int32) (S : St) (res : (Int32 × St)) (H : Heap) (locs : List Loc) (ls : Array Slot), Dy G S s H locs → lv_has ls 7 [(0, .ref (gR G 142)), (1, .int l1), (2, .int l2), (3, .int l3), (4, .int l4), (5, .int l5), (6, .int l6)] → LX10_round_81 r32 r40 n l1 l2 l3 l4 l5 l6 S = some res → W p l e (rmL 5 0 0) s m args below meth c H locs 0 0 (MQ below (QI G res.1 res.2) args s 0 0 (Ab G)) (F0 m 81 ls []) := by
  intro n
  induction n with
  | zero => intro l1 l2 l3 l4 l5 l6 S res H locs ls  hd hl h; cases h
  | succ n ih =>
    intro l1 l2 l3 l4 l5 l6 S res H locs ls  hd hl h
    exact sKX10_round_81 C hr hr32 hr40 ih  hd hl h
def BX10_round_76 (r32 : Int32 → Int32 → Int32 → St → Option (Int32 × St)) (r40 : Int32 → Int32 → Int32 → Int32 → St → Option (Int32 × St)) (l1 : Int32) (l2 : Int32) (l3 : Int32) (l4 : Int32) (s0 : Int32) (S : St) : Option (Int32 × St) :=
  (LX10_round_81 r32 r40 FU l1 l2 l3 l4 s0 0 S)
set_option maxHeartbeats 4000000 in
set_option maxRecDepth 20000 in
theorem sBX10_round_76 (C : Cx p s m args meth c cX10_round 7 RX10 G) (hr : meth.sig.returnType = some .int) {r32 : Int32 → Int32 → Int32 → St → Option (Int32 × St)} {r40 : Int32 → Int32 → Int32 → Int32 → St → Option (Int32 × St)} (hr32 : ∀ (l1 : Int32) (l2 : Int32) (l3 : Int32) (S : St) (res : (Int32 × St)) (H : Heap) (locs : List Loc) (ls : Array Slot), Dy G S s H locs → lv_has ls 7 [(0, .ref (gR G 142)), (1, .int l1), (2, .int l2), (3, .int l3)] → r32 l1 l2 l3 S = some res → W p l e (rmL 5 0 0) s m args below meth c H locs 0 0 (MQ below (QI G res.1 res.2) args s 0 0 (Ab G)) (F0 m 32 ls [])) (hr40 : ∀ (l1 : Int32) (l2 : Int32) (l3 : Int32) (l4 : Int32) (S : St) (res : (Int32 × St)) (H : Heap) (locs : List Loc) (ls : Array Slot), Dy G S s H locs → lv_has ls 7 [(0, .ref (gR G 142)), (1, .int l1), (2, .int l2), (3, .int l3), (4, .int l4)] → r40 l1 l2 l3 l4 S = some res → W p l e (rmL 5 0 0) s m args below meth c H locs 0 0 (MQ below (QI G res.1 res.2) args s 0 0 (Ab G)) (F0 m 40 ls [])) {l1 : Int32} {l2 : Int32} {l3 : Int32} {l4 : Int32} {s0 : Int32} {S : St} {res : (Int32 × St)} {H : Heap} {locs : List Loc} {ls : Array Slot}  (hd : Dy G S s H locs) (hl : lv_has ls 7 [(0, .ref (gR G 142)), (1, .int l1), (2, .int l2), (3, .int l3), (4, .int l4)]) (h : BX10_round_76 r32 r40 l1 l2 l3 l4 s0 S = some res) : W p l e (rmL 5 0 0) s m args below meth c H locs 0 0 (MQ below (QI G res.1 res.2) args s 0 0 (Ab G)) (F0 m 76 ls [.int s0]) := by
  unfold BX10_round_76 at h
  have hx := C.1.1
  have hb := C.1.2.1
  refine lv_istore (lv' := [(5, .int s0), (0, .ref (gR G 142)), (1, .int l1), (2, .int l2), (3, .int l3), (4, .int l4)]) hx hb dX10_round_76 hl (by decide) rfl (fun ls hl => ?_)
  refine lv_iconst (v := 0) hx hb dX10_round_78 (by decide) ?_
  refine lv_istore (lv' := [(6, .int 0), (5, .int s0), (0, .ref (gR G 142)), (1, .int l1), (2, .int l2), (3, .int l3), (4, .int l4)]) hx hb dX10_round_79 hl (by decide) rfl (fun ls hl => ?_)
  exact sLX10_round_81 C hr hr32 hr40 _ l1 l2 l3 l4 s0 0 _ _ _ _ _  hd (lv_sub hl [2, 3, 4, 5, 6, 1, 0] rfl) h
def KX10_round_40 (r32 : Int32 → Int32 → Int32 → St → Option (Int32 × St)) (r40 : Int32 → Int32 → Int32 → Int32 → St → Option (Int32 × St)) (l1 : Int32) (l2 : Int32) (l3 : Int32) (l4 : Int32) (S : St) : Option (Int32 × St) :=
  rd S 145 0 fun x2 => (if x2 ≤ l4 then vl (l3 + 1) fun x4 => (r32 l1 l2 x4 S) else (if l3 = ((1 : Int32) <<< (l4 &&& 31)) then rd S 164 ((8 * l1) + l4) fun x7 => (BX10_round_76 r32 r40 l1 l2 l3 l4 x7 S) else (BX10_round_76 r32 r40 l1 l2 l3 l4 100000 S)))
set_option maxHeartbeats 4000000 in
set_option maxRecDepth 20000 in
theorem sKX10_round_40 (C : Cx p s m args meth c cX10_round 7 RX10 G) (hr : meth.sig.returnType = some .int) {r32 : Int32 → Int32 → Int32 → St → Option (Int32 × St)} {r40 : Int32 → Int32 → Int32 → Int32 → St → Option (Int32 × St)} (hr32 : ∀ (l1 : Int32) (l2 : Int32) (l3 : Int32) (S : St) (res : (Int32 × St)) (H : Heap) (locs : List Loc) (ls : Array Slot), Dy G S s H locs → lv_has ls 7 [(0, .ref (gR G 142)), (1, .int l1), (2, .int l2), (3, .int l3)] → r32 l1 l2 l3 S = some res → W p l e (rmL 5 0 0) s m args below meth c H locs 0 0 (MQ below (QI G res.1 res.2) args s 0 0 (Ab G)) (F0 m 32 ls [])) (hr40 : ∀ (l1 : Int32) (l2 : Int32) (l3 : Int32) (l4 : Int32) (S : St) (res : (Int32 × St)) (H : Heap) (locs : List Loc) (ls : Array Slot), Dy G S s H locs → lv_has ls 7 [(0, .ref (gR G 142)), (1, .int l1), (2, .int l2), (3, .int l3), (4, .int l4)] → r40 l1 l2 l3 l4 S = some res → W p l e (rmL 5 0 0) s m args below meth c H locs 0 0 (MQ below (QI G res.1 res.2) args s 0 0 (Ab G)) (F0 m 40 ls [])) {l1 : Int32} {l2 : Int32} {l3 : Int32} {l4 : Int32} {S : St} {res : (Int32 × St)} {H : Heap} {locs : List Loc} {ls : Array Slot}  (hd : Dy G S s H locs) (hl : lv_has ls 7 [(0, .ref (gR G 142)), (1, .int l1), (2, .int l2), (3, .int l3), (4, .int l4)]) (h : KX10_round_40 r32 r40 l1 l2 l3 l4 S = some res) : W p l e (rmL 5 0 0) s m args below meth c H locs 0 0 (MQ below (QI G res.1 res.2) args s 0 0 (Ab G)) (F0 m 40 ls []) := by
  unfold KX10_round_40 at h
  have hx := C.1.1
  have hb := C.1.2.1
  refine lv_iload hx hb dX10_round_40 (lv_at hl 4 rfl) ?_
  refine lv_aload_n hx hb dX10_round_42 rfl (lv_at hl 0 rfl) ?_
  refine gX10_39 C hd (rfl : kd 142 = 10) (q := 145) rfl dX10_round_43 (fun y1 => ?_)
  refine lv_iconst (v := 0) hx hb dX10_round_46 (by decide) ?_
  refine R_iald C hd y1 h dX10_round_47 (fun x2 h => ?_)
  refine lv_icmp_ge (tgt := 188) hx hb dX10_round_48 (by decide) (fun c3 => ?_) (fun c3 => ?_)
  · rw [if_pos c3] at h
    refine R_vi h (fun x4 ex4 h => ?_)
    refine lv_iinc (v := x4) (lv' := [(3, .int x4), (0, .ref (gR G 142)), (1, .int l1), (2, .int l2), (4, .int l4)]) hx hb dX10_round_188 hl (k := 3) rfl (by rw [ex4]; rfl) (by decide) rfl (fun ls hl => ?_)
    refine lv_goto (tgt := 32) hx hb dX10_round_191 (by decide) ?_
    exact hr32 l1 l2 x4 _ _ _ _ _  hd (lv_sub hl [1, 2, 3, 0] rfl) h
  · rw [if_neg c3] at h
    refine lv_iload_n hx hb dX10_round_51 rfl (lv_at hl 3 rfl) ?_
    refine lv_iconst (v := 1) hx hb dX10_round_52 (by decide) ?_
    refine lv_iload hx hb dX10_round_53 (lv_at hl 4 rfl) ?_
    refine lv_ishl hx hb dX10_round_55 ?_
    refine lv_icmp_ne (tgt := 74) hx hb dX10_round_56 (by decide) (fun c5 => ?_) (fun c5 => ?_)
    · rw [if_neg c5] at h
      refine lv_ldc hx hb C.1.2.2.2.1 (C.1.2.2.2.2 _ kcX10_203) dX10_round_74 ?_
      exact sBX10_round_76 C hr hr32 hr40  hd (lv_sub hl [0, 1, 2, 3, 4] rfl) h
    · rw [if_pos c5] at h
      refine lv_aload_n hx hb dX10_round_59 rfl (lv_at hl 0 rfl) ?_
      refine gX10_98 C hd (rfl : kd 142 = 10) (q := 164) rfl dX10_round_60 (fun y6 => ?_)
      refine lv_bipush (v := 8) hx hb dX10_round_63 (by decide) ?_
      refine lv_iload_n hx hb dX10_round_65 rfl (lv_at hl 1 rfl) ?_
      refine lv_imul hx hb dX10_round_66 ?_
      refine lv_iload hx hb dX10_round_67 (lv_at hl 4 rfl) ?_
      refine lv_iadd hx hb dX10_round_69 ?_
      refine R_iald C hd y6 h dX10_round_70 (fun x7 h => ?_)
      refine lv_goto (tgt := 76) hx hb dX10_round_71 (by decide) ?_
      exact sBX10_round_76 C hr hr32 hr40  hd (lv_sub hl [0, 1, 2, 3, 4] rfl) h
def LX10_round_40 (r32 : Int32 → Int32 → Int32 → St → Option (Int32 × St)) : Nat → Int32 → Int32 → Int32 → Int32 → St → Option (Int32 × St)
  | 0 => fun _ _ _ _ _ => none
  | n + 1 => fun l1 l2 l3 l4 S => KX10_round_40 r32 (LX10_round_40 r32 n) l1 l2 l3 l4 S
theorem sLX10_round_40 (C : Cx p s m args meth c cX10_round 7 RX10 G) (hr : meth.sig.returnType = some .int) {r32 : Int32 → Int32 → Int32 → St → Option (Int32 × St)} (hr32 : ∀ (l1 : Int32) (l2 : Int32) (l3 : Int32) (S : St) (res : (Int32 × St)) (H : Heap) (locs : List Loc) (ls : Array Slot), Dy G S s H locs → lv_has ls 7 [(0, .ref (gR G 142)), (1, .int l1), (2, .int l2), (3, .int l3)] → r32 l1 l2 l3 S = some res → W p l e (rmL 5 0 0) s m args below meth c H locs 0 0 (MQ below (QI G res.1 res.2) args s 0 0 (Ab G)) (F0 m 32 ls [])) : ∀ (n : Nat) (l1 : Int32) (l2 : Int32) (l3 : Int32) (l4 : Int32) (S : St) (res : (Int32 × St)) (H : Heap) (locs : List Loc) (ls : Array Slot), Dy G S s H locs → lv_has ls 7 [(0, .ref (gR G 142)), (1, .int l1), (2, .int l2), (3, .int l3), (4, .int l4)] → LX10_round_40 r32 n l1 l2 l3 l4 S = some res → W p l e (rmL 5 0 0) s m args below meth c H locs 0 0 (MQ below (QI G res.1 res.2) args s 0 0 (Ab G)) (F0 m 40 ls []) := by
  intro n
  induction n with
  | zero => intro l1 l2 l3 l4 S res H locs ls  hd hl h; cases h
  | succ n ih =>
    intro l1 l2 l3 l4 S res H locs ls  hd hl h
    exact sKX10_round_40 C hr hr32 ih  hd hl h
def KX10_round_32 (r32 : Int32 → Int32 → Int32 → St → Option (Int32 × St)) (l1 : Int32) (l2 : Int32) (l3 : Int32) (S : St) : Option (Int32 × St) :=
  (if l2 < l3 then (LX10_round_200 FU l1 l2 100000 0 S) else (LX10_round_40 r32 FU l1 l2 l3 0 S))
set_option maxHeartbeats 4000000 in
set_option maxRecDepth 20000 in
theorem sKX10_round_32 (C : Cx p s m args meth c cX10_round 7 RX10 G) (hr : meth.sig.returnType = some .int) {r32 : Int32 → Int32 → Int32 → St → Option (Int32 × St)} (hr32 : ∀ (l1 : Int32) (l2 : Int32) (l3 : Int32) (S : St) (res : (Int32 × St)) (H : Heap) (locs : List Loc) (ls : Array Slot), Dy G S s H locs → lv_has ls 7 [(0, .ref (gR G 142)), (1, .int l1), (2, .int l2), (3, .int l3)] → r32 l1 l2 l3 S = some res → W p l e (rmL 5 0 0) s m args below meth c H locs 0 0 (MQ below (QI G res.1 res.2) args s 0 0 (Ab G)) (F0 m 32 ls [])) {l1 : Int32} {l2 : Int32} {l3 : Int32} {S : St} {res : (Int32 × St)} {H : Heap} {locs : List Loc} {ls : Array Slot}  (hd : Dy G S s H locs) (hl : lv_has ls 7 [(0, .ref (gR G 142)), (1, .int l1), (2, .int l2), (3, .int l3)]) (h : KX10_round_32 r32 l1 l2 l3 S = some res) : W p l e (rmL 5 0 0) s m args below meth c H locs 0 0 (MQ below (QI G res.1 res.2) args s 0 0 (Ab G)) (F0 m 32 ls []) := by
  unfold KX10_round_32 at h
  have hx := C.1.1
  have hb := C.1.2.1
  refine lv_iload_n hx hb dX10_round_32 rfl (lv_at hl 3 rfl) ?_
  refine lv_iload_n hx hb dX10_round_33 rfl (lv_at hl 2 rfl) ?_
  refine lv_icmp_gt (tgt := 194) hx hb dX10_round_34 (by decide) (fun c1 => ?_) (fun c1 => ?_)
  · rw [if_pos c1] at h
    refine lv_ldc hx hb C.1.2.2.2.1 (C.1.2.2.2.2 _ kcX10_203) dX10_round_194 ?_
    refine lv_istore_n (lv' := [(3, .int 100000), (0, .ref (gR G 142)), (1, .int l1), (2, .int l2)]) hx hb dX10_round_196 rfl hl (by decide) rfl (fun ls hl => ?_)
    refine lv_iconst (v := 0) hx hb dX10_round_197 (by decide) ?_
    refine lv_istore (lv' := [(4, .int 0), (3, .int 100000), (0, .ref (gR G 142)), (1, .int l1), (2, .int l2)]) hx hb dX10_round_198 hl (by decide) rfl (fun ls hl => ?_)
    exact sLX10_round_200 C hr _ l1 l2 100000 0 _ _ _ _ _  hd (lv_sub hl [2, 3, 4, 1, 0] rfl) h
  · rw [if_neg c1] at h
    refine lv_iconst (v := 0) hx hb dX10_round_37 (by decide) ?_
    refine lv_istore (lv' := [(4, .int 0), (0, .ref (gR G 142)), (1, .int l1), (2, .int l2), (3, .int l3)]) hx hb dX10_round_38 hl (by decide) rfl (fun ls hl => ?_)
    exact sLX10_round_40 C hr hr32 _ l1 l2 l3 0 _ _ _ _ _  hd (lv_sub hl [1, 2, 3, 4, 0] rfl) h
def LX10_round_32 : Nat → Int32 → Int32 → Int32 → St → Option (Int32 × St)
  | 0 => fun _ _ _ _ => none
  | n + 1 => fun l1 l2 l3 S => KX10_round_32 (LX10_round_32 n) l1 l2 l3 S
theorem sLX10_round_32 (C : Cx p s m args meth c cX10_round 7 RX10 G) (hr : meth.sig.returnType = some .int) : ∀ (n : Nat) (l1 : Int32) (l2 : Int32) (l3 : Int32) (S : St) (res : (Int32 × St)) (H : Heap) (locs : List Loc) (ls : Array Slot), Dy G S s H locs → lv_has ls 7 [(0, .ref (gR G 142)), (1, .int l1), (2, .int l2), (3, .int l3)] → LX10_round_32 n l1 l2 l3 S = some res → W p l e (rmL 5 0 0) s m args below meth c H locs 0 0 (MQ below (QI G res.1 res.2) args s 0 0 (Ab G)) (F0 m 32 ls []) := by
  intro n
  induction n with
  | zero => intro l1 l2 l3 S res H locs ls  hd hl h; cases h
  | succ n ih =>
    intro l1 l2 l3 S res H locs ls  hd hl h
    exact sKX10_round_32 C hr ih  hd hl h
def fX10_round (a1 : Int32) (S : St) : Option (Int32 × St) :=
  pf S 142 3 0 fun S => bd (fX10_isField a1 S) fun x1 S => (if x1 = 0 then bd (fX10_fail 1 S) fun x6 S => ri x6 S else rd S 145 0 fun x4 => vl (((1 : Int32) <<< (x4 &&& 31)) - 1) fun x5 => (LX10_round_32 FU a1 x5 1 S))
set_option maxHeartbeats 4000000 in
set_option maxRecDepth 20000 in
theorem sfX10_round (C : Cx p s m args meth c cX10_round 7 RX10 G) (hr : meth.sig.returnType = some .int) {a1 : Int32} {S : St} {res : (Int32 × St)} {H : Heap} {locs : List Loc} {ls : Array Slot}  (hd : Dy G S s H locs) (hl : lv_has ls 7 [(0, .ref (gR G 142)), (1, .int a1)]) (h : fX10_round a1 S = some res) : W p l e (rmL 5 0 0) s m args below meth c H locs 0 0 (MQ below (QI G res.1 res.2) args s 0 0 (Ab G)) (F0 m 0 ls []) := by
  unfold fX10_round at h
  have hx := C.1.1
  have hb := C.1.2.1
  refine lv_aload_n hx hb dX10_round_0 rfl (lv_at hl 0 rfl) ?_
  refine lv_iconst (v := 0) hx hb dX10_round_1 (by decide) ?_
  refine pX10_167 C hd (rfl : kd 142 = 10) h dX10_round_2 (fun S H locs hd h => ?_)
  refine lv_aload_n hx hb dX10_round_5 rfl (lv_at hl 0 rfl) ?_
  refine lv_iload_n hx hb dX10_round_6 rfl (lv_at hl 1 rfl) ?_
  obtain ⟨x1, S1, hc, h⟩ := bd_some h
  refine R_cVi C hd (ccX10_isField l G  hc) kX10_392 rfl (by decide) (rfl : kd 142 = 10) hl.1 ⟨by decide, by decide⟩ rfl rfl (Nat.le_of_ble_eq_true rfl) dX10_round_7 ⟨Nat.zero_le _, Nat.zero_le _⟩ (fun H locs hd => ?_)
  generalize S1 = S at h hd
  refine lv_if_ne (tgt := 19) hx hb dX10_round_10 (by decide) (fun c2 => ?_) (fun c2 => ?_)
  · rw [if_neg c2] at h
    refine lv_iconst (v := 1) hx hb dX10_round_19 (by decide) ?_
    refine lv_aload_n hx hb dX10_round_20 rfl (lv_at hl 0 rfl) ?_
    refine gX10_39 C hd (rfl : kd 142 = 10) (q := 145) rfl dX10_round_21 (fun y3 => ?_)
    refine lv_iconst (v := 0) hx hb dX10_round_24 (by decide) ?_
    refine R_iald C hd y3 h dX10_round_25 (fun x4 h => ?_)
    refine lv_ishl hx hb dX10_round_26 ?_
    refine lv_iconst (v := 1) hx hb dX10_round_27 (by decide) ?_
    refine lv_isub hx hb dX10_round_28 ?_
    refine R_vl h (fun x5 h => ?_)
    refine lv_istore_n (lv' := [(2, .int x5), (0, .ref (gR G 142)), (1, .int a1)]) hx hb dX10_round_29 rfl hl (by decide) rfl (fun ls hl => ?_)
    refine lv_iconst (v := 1) hx hb dX10_round_30 (by decide) ?_
    refine lv_istore_n (lv' := [(3, .int 1), (2, .int x5), (0, .ref (gR G 142)), (1, .int a1)]) hx hb dX10_round_31 rfl hl (by decide) rfl (fun ls hl => ?_)
    exact sLX10_round_32 C hr _ a1 x5 1 _ _ _ _ _  hd (lv_sub hl [2, 3, 1, 0] rfl) h
  · rw [if_pos c2] at h
    refine lv_aload_n hx hb dX10_round_13 rfl (lv_at hl 0 rfl) ?_
    refine lv_iconst (v := 1) hx hb dX10_round_14 (by decide) ?_
    obtain ⟨x6, S1, hc, h⟩ := bd_some h
    refine R_cVi C hd (ccX10_fail l G  hc) kX10_325 rfl (by decide) (rfl : kd 142 = 10) hl.1 ⟨by decide, by decide⟩ rfl rfl (Nat.le_of_ble_eq_true rfl) dX10_round_15 ⟨Nat.zero_le _, Nat.zero_le _⟩ (fun H locs hd => ?_)
    generalize S1 = S at h hd
    exact R_iret C hr hd h dX10_round_18
set_option maxRecDepth 20000 in
theorem ccX10_round (l : Launch) (G : Gt) {a1 : Int32} {S : St} {res : (Int32 × St)}  (h : fX10_round a1 S = some res) : Met l yX10_round (wm yX10_round cX10_round 7 (some .int)) (rmL 5 0 0) (PcW G S [.ref (gR G 142), .int a1]) (QI G res.1 res.2) 0 0 (Ab G) := by
  refine Met.ofW (cc := cX10_round) (maxL := 7) (ret := (some .int)) (by decide) rfl ?_
  intro p e s m args below meth c s₁ B hml hv
  obtain ⟨rfl, hK, hP⟩ := hv
  have C : Cx p s m _ meth c cX10_round 7 RX10 G := ⟨⟨B.exec, B.bytes, hml, findClass_of_methodNamed B.named, fun w hw => atoms_spec (ws := wm yX10_round cX10_round 7 (some .int)) B.pre w (List.mem_cons_of_mem _ hw)⟩, B.notSynchronized, hK⟩
  have hl := lv_entry ([.ref (gR G 142), .int a1]) (n := 7) (Nat.le_of_ble_eq_true rfl)
  rw [lg_entry_eq]
  generalize (lg_sl ([.ref (gR G 142), .int a1]) ++ List.replicate (7 - (lg_sl ([.ref (gR G 142), .int a1])).length) Slot.unset).toArray = ls at hl ⊢
  exact sfX10_round C B.returns  ⟨hP, va_S.rf⟩ hl h
def BX10_wedding_14  (S : St) : Option (Int32 × St) :=
  bd (fX10_fail 1 S) fun x1 S => ri x1 S
set_option maxHeartbeats 4000000 in
set_option maxRecDepth 20000 in
theorem sBX10_wedding_14 (C : Cx p s m args meth c cX10_wedding 7 RX10 G) (hr : meth.sig.returnType = some .int)  {S : St} {res : (Int32 × St)} {H : Heap} {locs : List Loc} {ls : Array Slot}  (hd : Dy G S s H locs) (hl : lv_has ls 7 [(0, .ref (gR G 142))]) (h : BX10_wedding_14  S = some res) : W p l e (rmL 4 0 0) s m args below meth c H locs 0 0 (MQ below (QI G res.1 res.2) args s 0 0 (Ab G)) (F0 m 14 ls []) := by
  unfold BX10_wedding_14 at h
  have hx := C.1.1
  have hb := C.1.2.1
  refine lv_aload_n hx hb dX10_wedding_14 rfl (lv_at hl 0 rfl) ?_
  refine lv_iconst (v := 1) hx hb dX10_wedding_15 (by decide) ?_
  obtain ⟨x1, S1, hc, h⟩ := bd_some h
  refine R_cVi C hd (ccX10_fail l G  hc) kX10_325 rfl (by decide) (rfl : kd 142 = 10) hl.1 ⟨by decide, by decide⟩ rfl rfl (Nat.le_of_ble_eq_true rfl) dX10_wedding_16 ⟨Nat.zero_le _, Nat.zero_le _⟩ (fun H locs hd => ?_)
  generalize S1 = S at h hd
  exact R_iret C hr hd h dX10_wedding_19
def BX10_wedding_99 (r28 : Int32 → Int32 → Int32 → Int32 → St → Option (Int32 × St)) (l1 : Int32) (l2 : Int32) (l3 : Int32) (l4 : Int32) (S : St) : Option (Int32 × St) :=
  vl (l4 + 1) fun x1 => (r28 l1 l2 l3 x1 S)
set_option maxHeartbeats 4000000 in
set_option maxRecDepth 20000 in
theorem sBX10_wedding_99 (C : Cx p s m args meth c cX10_wedding 7 RX10 G) (hr : meth.sig.returnType = some .int) {r28 : Int32 → Int32 → Int32 → Int32 → St → Option (Int32 × St)} (hr28 : ∀ (l1 : Int32) (l2 : Int32) (l3 : Int32) (l4 : Int32) (S : St) (res : (Int32 × St)) (H : Heap) (locs : List Loc) (ls : Array Slot), Dy G S s H locs → lv_has ls 7 [(0, .ref (gR G 142)), (1, .int l1), (2, .int l2), (3, .int l3), (4, .int l4)] → r28 l1 l2 l3 l4 S = some res → W p l e (rmL 4 0 0) s m args below meth c H locs 0 0 (MQ below (QI G res.1 res.2) args s 0 0 (Ab G)) (F0 m 28 ls [])) {l1 : Int32} {l2 : Int32} {l3 : Int32} {l4 : Int32} {S : St} {res : (Int32 × St)} {H : Heap} {locs : List Loc} {ls : Array Slot}  (hd : Dy G S s H locs) (hl : lv_has ls 7 [(0, .ref (gR G 142)), (1, .int l1), (2, .int l2), (3, .int l3), (4, .int l4)]) (h : BX10_wedding_99 r28 l1 l2 l3 l4 S = some res) : W p l e (rmL 4 0 0) s m args below meth c H locs 0 0 (MQ below (QI G res.1 res.2) args s 0 0 (Ab G)) (F0 m 99 ls []) := by
  unfold BX10_wedding_99 at h
  have hx := C.1.1
  have hb := C.1.2.1
  refine R_vi h (fun x1 ex1 h => ?_)
  refine lv_iinc (v := x1) (lv' := [(4, .int x1), (0, .ref (gR G 142)), (1, .int l1), (2, .int l2), (3, .int l3)]) hx hb dX10_wedding_99 hl (k := 4) rfl (by rw [ex1]; rfl) (by decide) rfl (fun ls hl => ?_)
  refine lv_goto (tgt := 28) hx hb dX10_wedding_102 (by decide) ?_
  exact hr28 l1 l2 l3 x1 _ _ _ _ _  hd (lv_sub hl [1, 2, 3, 4, 0] rfl) h
def KX10_wedding_45 (r28 : Int32 → Int32 → Int32 → Int32 → St → Option (Int32 × St)) (r45 : Int32 → Int32 → Int32 → Int32 → Int32 → Int32 → St → Option (Int32 × St)) (l1 : Int32) (l2 : Int32) (l3 : Int32) (l4 : Int32) (l5 : Int32) (l6 : Int32) (S : St) : Option (Int32 × St) :=
  rd S 145 2 fun x2 => (if x2 ≤ l6 then (if l5 < l3 then (BX10_wedding_99 r28 l1 l4 l5 l4 S) else (BX10_wedding_99 r28 l1 l2 l3 l4 S)) else bd (fX10_placeOf l6 S) fun x6 S => rd S 164 ((8 * x6) + l4) fun x7 => vl (l5 + x7) fun x8 => vl (l6 + 1) fun x9 => (r45 l1 l2 l3 l4 x8 x9 S))
set_option maxHeartbeats 4000000 in
set_option maxRecDepth 20000 in
theorem sKX10_wedding_45 (C : Cx p s m args meth c cX10_wedding 7 RX10 G) (hr : meth.sig.returnType = some .int) {r28 : Int32 → Int32 → Int32 → Int32 → St → Option (Int32 × St)} {r45 : Int32 → Int32 → Int32 → Int32 → Int32 → Int32 → St → Option (Int32 × St)} (hr28 : ∀ (l1 : Int32) (l2 : Int32) (l3 : Int32) (l4 : Int32) (S : St) (res : (Int32 × St)) (H : Heap) (locs : List Loc) (ls : Array Slot), Dy G S s H locs → lv_has ls 7 [(0, .ref (gR G 142)), (1, .int l1), (2, .int l2), (3, .int l3), (4, .int l4)] → r28 l1 l2 l3 l4 S = some res → W p l e (rmL 4 0 0) s m args below meth c H locs 0 0 (MQ below (QI G res.1 res.2) args s 0 0 (Ab G)) (F0 m 28 ls [])) (hr45 : ∀ (l1 : Int32) (l2 : Int32) (l3 : Int32) (l4 : Int32) (l5 : Int32) (l6 : Int32) (S : St) (res : (Int32 × St)) (H : Heap) (locs : List Loc) (ls : Array Slot), Dy G S s H locs → lv_has ls 7 [(0, .ref (gR G 142)), (1, .int l1), (2, .int l2), (3, .int l3), (4, .int l4), (5, .int l5), (6, .int l6)] → r45 l1 l2 l3 l4 l5 l6 S = some res → W p l e (rmL 4 0 0) s m args below meth c H locs 0 0 (MQ below (QI G res.1 res.2) args s 0 0 (Ab G)) (F0 m 45 ls [])) {l1 : Int32} {l2 : Int32} {l3 : Int32} {l4 : Int32} {l5 : Int32} {l6 : Int32} {S : St} {res : (Int32 × St)} {H : Heap} {locs : List Loc} {ls : Array Slot}  (hd : Dy G S s H locs) (hl : lv_has ls 7 [(0, .ref (gR G 142)), (1, .int l1), (2, .int l2), (3, .int l3), (4, .int l4), (5, .int l5), (6, .int l6)]) (h : KX10_wedding_45 r28 r45 l1 l2 l3 l4 l5 l6 S = some res) : W p l e (rmL 4 0 0) s m args below meth c H locs 0 0 (MQ below (QI G res.1 res.2) args s 0 0 (Ab G)) (F0 m 45 ls []) := by
  unfold KX10_wedding_45 at h
  have hx := C.1.1
  have hb := C.1.2.1
  refine lv_iload hx hb dX10_wedding_45 (lv_at hl 6 rfl) ?_
  refine lv_aload_n hx hb dX10_wedding_47 rfl (lv_at hl 0 rfl) ?_
  refine gX10_39 C hd (rfl : kd 142 = 10) (q := 145) rfl dX10_wedding_48 (fun y1 => ?_)
  refine lv_iconst (v := 2) hx hb dX10_wedding_51 (by decide) ?_
  refine R_iald C hd y1 h dX10_wedding_52 (fun x2 h => ?_)
  refine lv_icmp_ge (tgt := 84) hx hb dX10_wedding_53 (by decide) (fun c3 => ?_) (fun c3 => ?_)
  · rw [if_pos c3] at h
    refine lv_iload hx hb dX10_wedding_84 (lv_at hl 5 rfl) ?_
    refine lv_iload_n hx hb dX10_wedding_86 rfl (lv_at hl 3 rfl) ?_
    refine lv_icmp_lt (tgt := 93) hx hb dX10_wedding_87 (by decide) (fun c4 => ?_) (fun c4 => ?_)
    · rw [if_pos c4] at h
      refine lv_iload hx hb dX10_wedding_93 (lv_at hl 4 rfl) ?_
      refine lv_istore_n (lv' := [(2, .int l4), (0, .ref (gR G 142)), (1, .int l1), (3, .int l3), (4, .int l4), (5, .int l5), (6, .int l6)]) hx hb dX10_wedding_95 rfl hl (by decide) rfl (fun ls hl => ?_)
      refine lv_iload hx hb dX10_wedding_96 (lv_at hl 5 rfl) ?_
      refine lv_istore_n (lv' := [(3, .int l5), (2, .int l4), (0, .ref (gR G 142)), (1, .int l1), (4, .int l4), (5, .int l5), (6, .int l6)]) hx hb dX10_wedding_98 rfl hl (by decide) rfl (fun ls hl => ?_)
      exact sBX10_wedding_99 C hr hr28  hd (lv_sub hl [2, 3, 1, 0, 4] rfl) h
    · rw [if_neg c4] at h
      refine lv_goto (tgt := 99) hx hb dX10_wedding_90 (by decide) ?_
      exact sBX10_wedding_99 C hr hr28  hd (lv_sub hl [0, 1, 2, 3, 4] rfl) h
  · rw [if_neg c3] at h
    refine lv_iload hx hb dX10_wedding_56 (lv_at hl 5 rfl) ?_
    refine lv_aload_n hx hb dX10_wedding_58 rfl (lv_at hl 0 rfl) ?_
    refine gX10_98 C hd (rfl : kd 142 = 10) (q := 164) rfl dX10_wedding_59 (fun y5 => ?_)
    refine lv_bipush (v := 8) hx hb dX10_wedding_62 (by decide) ?_
    refine lv_aload_n hx hb dX10_wedding_64 rfl (lv_at hl 0 rfl) ?_
    refine lv_iload hx hb dX10_wedding_65 (lv_at hl 6 rfl) ?_
    obtain ⟨x6, S1, hc, h⟩ := bd_some h
    refine R_cVi C hd (ccX10_placeOf l G  hc) kX10_359 rfl (by decide) (rfl : kd 142 = 10) hl.1 ⟨by decide, by decide⟩ rfl rfl (Nat.le_of_ble_eq_true rfl) dX10_wedding_67 ⟨Nat.zero_le _, Nat.zero_le _⟩ (fun H locs hd => ?_)
    generalize S1 = S at h hd
    refine lv_imul hx hb dX10_wedding_70 ?_
    refine lv_iload hx hb dX10_wedding_71 (lv_at hl 4 rfl) ?_
    refine lv_iadd hx hb dX10_wedding_73 ?_
    refine R_iald C hd y5 h dX10_wedding_74 (fun x7 h => ?_)
    refine lv_iadd hx hb dX10_wedding_75 ?_
    refine R_vl h (fun x8 h => ?_)
    refine lv_istore (lv' := [(5, .int x8), (0, .ref (gR G 142)), (1, .int l1), (2, .int l2), (3, .int l3), (4, .int l4), (6, .int l6)]) hx hb dX10_wedding_76 hl (by decide) rfl (fun ls hl => ?_)
    refine R_vi h (fun x9 ex9 h => ?_)
    refine lv_iinc (v := x9) (lv' := [(6, .int x9), (5, .int x8), (0, .ref (gR G 142)), (1, .int l1), (2, .int l2), (3, .int l3), (4, .int l4)]) hx hb dX10_wedding_78 hl (k := 6) rfl (by rw [ex9]; rfl) (by decide) rfl (fun ls hl => ?_)
    refine lv_goto (tgt := 45) hx hb dX10_wedding_81 (by decide) ?_
    exact hr45 l1 l2 l3 l4 x8 x9 _ _ _ _ _  hd (lv_sub hl [2, 3, 4, 5, 6, 1, 0] rfl) h
def LX10_wedding_45 (r28 : Int32 → Int32 → Int32 → Int32 → St → Option (Int32 × St)) : Nat → Int32 → Int32 → Int32 → Int32 → Int32 → Int32 → St → Option (Int32 × St)
  | 0 => fun _ _ _ _ _ _ _ => none
  | n + 1 => fun l1 l2 l3 l4 l5 l6 S => KX10_wedding_45 r28 (LX10_wedding_45 r28 n) l1 l2 l3 l4 l5 l6 S
theorem sLX10_wedding_45 (C : Cx p s m args meth c cX10_wedding 7 RX10 G) (hr : meth.sig.returnType = some .int) {r28 : Int32 → Int32 → Int32 → Int32 → St → Option (Int32 × St)} (hr28 : ∀ (l1 : Int32) (l2 : Int32) (l3 : Int32) (l4 : Int32) (S : St) (res : (Int32 × St)) (H : Heap) (locs : List Loc) (ls : Array Slot), Dy G S s H locs → lv_has ls 7 [(0, .ref (gR G 142)), (1, .int l1), (2, .int l2), (3, .int l3), (4, .int l4)] → r28 l1 l2 l3 l4 S = some res → W p l e (rmL 4 0 0) s m args below meth c H locs 0 0 (MQ below (QI G res.1 res.2) args s 0 0 (Ab G)) (F0 m 28 ls [])) : ∀ (n : Nat) (l1 : Int32) (l2 : Int32) (l3 : Int32) (l4 : Int32) (l5 : Int32) (l6 : Int32) (S : St) (res : (Int32 × St)) (H : Heap) (locs : List Loc) (ls : Array Slot), Dy G S s H locs → lv_has ls 7 [(0, .ref (gR G 142)), (1, .int l1), (2, .int l2), (3, .int l3), (4, .int l4), (5, .int l5), (6, .int l6)] → LX10_wedding_45 r28 n l1 l2 l3 l4 l5 l6 S = some res → W p l e (rmL 4 0 0) s m args below meth c H locs 0 0 (MQ below (QI G res.1 res.2) args s 0 0 (Ab G)) (F0 m 45 ls []) := by
  intro n
  induction n with
  | zero => intro l1 l2 l3 l4 l5 l6 S res H locs ls  hd hl h; cases h
  | succ n ih =>
    intro l1 l2 l3 l4 l5 l6 S res H locs ls  hd hl h
    exact sKX10_wedding_45 C hr hr28 ih  hd hl h
def KX10_wedding_28 (r28 : Int32 → Int32 → Int32 → Int32 → St → Option (Int32 × St)) (l1 : Int32) (l2 : Int32) (l3 : Int32) (l4 : Int32) (S : St) : Option (Int32 × St) :=
  rd S 145 0 fun x2 => (if x2 ≤ l4 then (if l1 = 0 then ri l2 S else (if l2 = (-1) then ri l2 S else ri l3 S)) else (LX10_wedding_45 r28 FU l1 l2 l3 l4 0 0 S))
set_option maxHeartbeats 4000000 in
set_option maxRecDepth 20000 in
theorem sKX10_wedding_28 (C : Cx p s m args meth c cX10_wedding 7 RX10 G) (hr : meth.sig.returnType = some .int) {r28 : Int32 → Int32 → Int32 → Int32 → St → Option (Int32 × St)} (hr28 : ∀ (l1 : Int32) (l2 : Int32) (l3 : Int32) (l4 : Int32) (S : St) (res : (Int32 × St)) (H : Heap) (locs : List Loc) (ls : Array Slot), Dy G S s H locs → lv_has ls 7 [(0, .ref (gR G 142)), (1, .int l1), (2, .int l2), (3, .int l3), (4, .int l4)] → r28 l1 l2 l3 l4 S = some res → W p l e (rmL 4 0 0) s m args below meth c H locs 0 0 (MQ below (QI G res.1 res.2) args s 0 0 (Ab G)) (F0 m 28 ls [])) {l1 : Int32} {l2 : Int32} {l3 : Int32} {l4 : Int32} {S : St} {res : (Int32 × St)} {H : Heap} {locs : List Loc} {ls : Array Slot}  (hd : Dy G S s H locs) (hl : lv_has ls 7 [(0, .ref (gR G 142)), (1, .int l1), (2, .int l2), (3, .int l3), (4, .int l4)]) (h : KX10_wedding_28 r28 l1 l2 l3 l4 S = some res) : W p l e (rmL 4 0 0) s m args below meth c H locs 0 0 (MQ below (QI G res.1 res.2) args s 0 0 (Ab G)) (F0 m 28 ls []) := by
  unfold KX10_wedding_28 at h
  have hx := C.1.1
  have hb := C.1.2.1
  refine lv_iload hx hb dX10_wedding_28 (lv_at hl 4 rfl) ?_
  refine lv_aload_n hx hb dX10_wedding_30 rfl (lv_at hl 0 rfl) ?_
  refine gX10_39 C hd (rfl : kd 142 = 10) (q := 145) rfl dX10_wedding_31 (fun y1 => ?_)
  refine lv_iconst (v := 0) hx hb dX10_wedding_34 (by decide) ?_
  refine R_iald C hd y1 h dX10_wedding_35 (fun x2 h => ?_)
  refine lv_icmp_ge (tgt := 105) hx hb dX10_wedding_36 (by decide) (fun c3 => ?_) (fun c3 => ?_)
  · rw [if_pos c3] at h
    refine lv_iload_n hx hb dX10_wedding_105 rfl (lv_at hl 1 rfl) ?_
    refine lv_if_eq (tgt := 114) hx hb dX10_wedding_106 (by decide) (fun c4 => ?_) (fun c4 => ?_)
    · rw [if_pos c4] at h
      refine lv_iload_n hx hb dX10_wedding_114 rfl (lv_at hl 2 rfl) ?_
      refine lv_goto (tgt := 119) hx hb dX10_wedding_115 (by decide) ?_
      exact R_iret C hr hd h dX10_wedding_119
    · rw [if_neg c4] at h
      refine lv_iload_n hx hb dX10_wedding_109 rfl (lv_at hl 2 rfl) ?_
      refine lv_iconst (v := -1) hx hb dX10_wedding_110 (by decide) ?_
      refine lv_icmp_ne (tgt := 118) hx hb dX10_wedding_111 (by decide) (fun c5 => ?_) (fun c5 => ?_)
      · rw [if_neg c5] at h
        refine lv_iload_n hx hb dX10_wedding_118 rfl (lv_at hl 3 rfl) ?_
        exact R_iret C hr hd h dX10_wedding_119
      · rw [if_pos c5] at h
        refine lv_iload_n hx hb dX10_wedding_114 rfl (lv_at hl 2 rfl) ?_
        refine lv_goto (tgt := 119) hx hb dX10_wedding_115 (by decide) ?_
        exact R_iret C hr hd h dX10_wedding_119
  · rw [if_neg c3] at h
    refine lv_iconst (v := 0) hx hb dX10_wedding_39 (by decide) ?_
    refine lv_istore (lv' := [(5, .int 0), (0, .ref (gR G 142)), (1, .int l1), (2, .int l2), (3, .int l3), (4, .int l4)]) hx hb dX10_wedding_40 hl (by decide) rfl (fun ls hl => ?_)
    refine lv_iconst (v := 0) hx hb dX10_wedding_42 (by decide) ?_
    refine lv_istore (lv' := [(6, .int 0), (5, .int 0), (0, .ref (gR G 142)), (1, .int l1), (2, .int l2), (3, .int l3), (4, .int l4)]) hx hb dX10_wedding_43 hl (by decide) rfl (fun ls hl => ?_)
    exact sLX10_wedding_45 C hr hr28 _ l1 l2 l3 l4 0 0 _ _ _ _ _  hd (lv_sub hl [2, 3, 4, 5, 6, 1, 0] rfl) h
def LX10_wedding_28 : Nat → Int32 → Int32 → Int32 → Int32 → St → Option (Int32 × St)
  | 0 => fun _ _ _ _ _ => none
  | n + 1 => fun l1 l2 l3 l4 S => KX10_wedding_28 (LX10_wedding_28 n) l1 l2 l3 l4 S
theorem sLX10_wedding_28 (C : Cx p s m args meth c cX10_wedding 7 RX10 G) (hr : meth.sig.returnType = some .int) : ∀ (n : Nat) (l1 : Int32) (l2 : Int32) (l3 : Int32) (l4 : Int32) (S : St) (res : (Int32 × St)) (H : Heap) (locs : List Loc) (ls : Array Slot), Dy G S s H locs → lv_has ls 7 [(0, .ref (gR G 142)), (1, .int l1), (2, .int l2), (3, .int l3), (4, .int l4)] → LX10_wedding_28 n l1 l2 l3 l4 S = some res → W p l e (rmL 4 0 0) s m args below meth c H locs 0 0 (MQ below (QI G res.1 res.2) args s 0 0 (Ab G)) (F0 m 28 ls []) := by
  intro n
  induction n with
  | zero => intro l1 l2 l3 l4 S res H locs ls  hd hl h; cases h
  | succ n ih =>
    intro l1 l2 l3 l4 S res H locs ls  hd hl h
    exact sKX10_wedding_28 C hr ih  hd hl h
def fX10_wedding (a1 : Int32) (S : St) : Option (Int32 × St) :=
  pf S 142 3 0 fun S => (if a1 < 0 then (BX10_wedding_14  S) else (if a1 ≤ 1 then (LX10_wedding_28 FU a1 ((-1)) 100000 0 S) else (BX10_wedding_14  S)))
set_option maxHeartbeats 4000000 in
set_option maxRecDepth 20000 in
theorem sfX10_wedding (C : Cx p s m args meth c cX10_wedding 7 RX10 G) (hr : meth.sig.returnType = some .int) {a1 : Int32} {S : St} {res : (Int32 × St)} {H : Heap} {locs : List Loc} {ls : Array Slot}  (hd : Dy G S s H locs) (hl : lv_has ls 7 [(0, .ref (gR G 142)), (1, .int a1)]) (h : fX10_wedding a1 S = some res) : W p l e (rmL 4 0 0) s m args below meth c H locs 0 0 (MQ below (QI G res.1 res.2) args s 0 0 (Ab G)) (F0 m 0 ls []) := by
  unfold fX10_wedding at h
  have hx := C.1.1
  have hb := C.1.2.1
  refine lv_aload_n hx hb dX10_wedding_0 rfl (lv_at hl 0 rfl) ?_
  refine lv_iconst (v := 0) hx hb dX10_wedding_1 (by decide) ?_
  refine pX10_167 C hd (rfl : kd 142 = 10) h dX10_wedding_2 (fun S H locs hd h => ?_)
  refine lv_iload_n hx hb dX10_wedding_5 rfl (lv_at hl 1 rfl) ?_
  refine lv_if_lt (tgt := 14) hx hb dX10_wedding_6 (by decide) (fun c1 => ?_) (fun c1 => ?_)
  · rw [if_pos c1] at h
    exact sBX10_wedding_14 C hr  hd (lv_sub hl [0] rfl) h
  · rw [if_neg c1] at h
    refine lv_iload_n hx hb dX10_wedding_9 rfl (lv_at hl 1 rfl) ?_
    refine lv_iconst (v := 1) hx hb dX10_wedding_10 (by decide) ?_
    refine lv_icmp_le (tgt := 20) hx hb dX10_wedding_11 (by decide) (fun c2 => ?_) (fun c2 => ?_)
    · rw [if_pos c2] at h
      refine lv_iconst (v := -1) hx hb dX10_wedding_20 (by decide) ?_
      refine lv_istore_n (lv' := [(2, .int ((-1))), (0, .ref (gR G 142)), (1, .int a1)]) hx hb dX10_wedding_21 rfl hl (by decide) rfl (fun ls hl => ?_)
      refine lv_ldc hx hb C.1.2.2.2.1 (C.1.2.2.2.2 _ kcX10_203) dX10_wedding_22 ?_
      refine lv_istore_n (lv' := [(3, .int 100000), (2, .int ((-1))), (0, .ref (gR G 142)), (1, .int a1)]) hx hb dX10_wedding_24 rfl hl (by decide) rfl (fun ls hl => ?_)
      refine lv_iconst (v := 0) hx hb dX10_wedding_25 (by decide) ?_
      refine lv_istore (lv' := [(4, .int 0), (3, .int 100000), (2, .int ((-1))), (0, .ref (gR G 142)), (1, .int a1)]) hx hb dX10_wedding_26 hl (by decide) rfl (fun ls hl => ?_)
      exact sLX10_wedding_28 C hr _ a1 ((-1)) 100000 0 _ _ _ _ _  hd (lv_sub hl [3, 4, 2, 1, 0] rfl) h
    · rw [if_neg c2] at h
      exact sBX10_wedding_14 C hr  hd (lv_sub hl [0] rfl) h
set_option maxRecDepth 20000 in
theorem ccX10_wedding (l : Launch) (G : Gt) {a1 : Int32} {S : St} {res : (Int32 × St)}  (h : fX10_wedding a1 S = some res) : Met l yX10_wedding (wm yX10_wedding cX10_wedding 7 (some .int)) (rmL 4 0 0) (PcW G S [.ref (gR G 142), .int a1]) (QI G res.1 res.2) 0 0 (Ab G) := by
  refine Met.ofW (cc := cX10_wedding) (maxL := 7) (ret := (some .int)) (by decide) rfl ?_
  intro p e s m args below meth c s₁ B hml hv
  obtain ⟨rfl, hK, hP⟩ := hv
  have C : Cx p s m _ meth c cX10_wedding 7 RX10 G := ⟨⟨B.exec, B.bytes, hml, findClass_of_methodNamed B.named, fun w hw => atoms_spec (ws := wm yX10_wedding cX10_wedding 7 (some .int)) B.pre w (List.mem_cons_of_mem _ hw)⟩, B.notSynchronized, hK⟩
  have hl := lv_entry ([.ref (gR G 142), .int a1]) (n := 7) (Nat.le_of_ble_eq_true rfl)
  rw [lg_entry_eq]
  generalize (lg_sl ([.ref (gR G 142), .int a1]) ++ List.replicate (7 - (lg_sl ([.ref (gR G 142), .int a1])).length) Slot.unset).toArray = ls at hl ⊢
  exact sfX10_wedding C B.returns  ⟨hP, va_S.rf⟩ hl h
def BX10_shared_76 (rx : Int32 → Int32 → St → Option (Int32 × St)) (r50 : Int32 → Int32 → Int32 → Int32 → Int32 → St → Option (Int32 × St)) (l1 : Int32) (l2 : Int32) (l3 : Int32) (l5 : Int32) (s0 : Int32) (S : St) : Option (Int32 × St) :=
  rd S 172 l5 fun x2 => rd S 146 l1 fun x4 => wr S 172 l5 (x2 + x4) fun S => bd (rx (l1 + 1) l2 S) fun x5 S => vl (if x5 < l3 then x5 else l3) fun x6 => rd S 172 l5 fun x8 => rd S 146 l1 fun x10 => wr S 172 l5 (x8 - x10) fun S => vl (l5 + 1) fun x11 => (r50 l1 l2 x6 s0 x11 S)
set_option maxHeartbeats 4000000 in
set_option maxRecDepth 20000 in
theorem sBX10_shared_76 (C : Cx p s m args meth c cX10_shared 6 RX10 G) (hr : meth.sig.returnType = some .int) {rx : Int32 → Int32 → St → Option (Int32 × St)} {r50 : Int32 → Int32 → Int32 → Int32 → Int32 → St → Option (Int32 × St)} {dx : Nat} (hrx : ∀ (a1 a2 : Int32) (S : St) (res : Int32 × St), rx a1 a2 S = some res → Met l yX10_shared (wm yX10_shared cX10_shared 6 (some .int)) (rmL dx 0 0) (PcW G S [.ref (gR G 142), .int a1, .int a2]) (QI G res.1 res.2) 0 0 (Ab G)) (hr50 : ∀ (l1 : Int32) (l2 : Int32) (l3 : Int32) (l4 : Int32) (l5 : Int32) (S : St) (res : (Int32 × St)) (H : Heap) (locs : List Loc) (ls : Array Slot), Dy G S s H locs → lv_has ls 6 [(0, .ref (gR G 142)), (1, .int l1), (2, .int l2), (3, .int l3), (4, .int l4), (5, .int l5)] → r50 l1 l2 l3 l4 l5 S = some res → W p l e (rmL (dx + 4) 0 0) s m args below meth c H locs 0 0 (MQ below (QI G res.1 res.2) args s 0 0 (Ab G)) (F0 m 50 ls [])) {l1 : Int32} {l2 : Int32} {l3 : Int32} {l5 : Int32} {s0 : Int32} {S : St} {res : (Int32 × St)} {H : Heap} {locs : List Loc} {ls : Array Slot}  (hd : Dy G S s H locs) (hl : lv_has ls 6 [(0, .ref (gR G 142)), (1, .int l1), (2, .int l2), (3, .int l3), (5, .int l5)]) (h : BX10_shared_76 rx r50 l1 l2 l3 l5 s0 S = some res) : W p l e (rmL (dx + 4) 0 0) s m args below meth c H locs 0 0 (MQ below (QI G res.1 res.2) args s 0 0 (Ab G)) (F0 m 76 ls [.int s0]) := by
  unfold BX10_shared_76 at h
  have hx := C.1.1
  have hb := C.1.2.1
  refine lv_istore (lv' := [(4, .int s0), (0, .ref (gR G 142)), (1, .int l1), (2, .int l2), (3, .int l3), (5, .int l5)]) hx hb dX10_shared_76 hl (by decide) rfl (fun ls hl => ?_)
  refine lv_aload_n hx hb dX10_shared_78 rfl (lv_at hl 1 rfl) ?_
  refine gX10_125 C hd (rfl : kd 142 = 10) (q := 172) rfl dX10_shared_79 (fun y1 => ?_)
  refine lv_iload hx hb dX10_shared_82 (lv_at hl 5 rfl) ?_
  refine lv_dup2_11 hx hb dX10_shared_84 rfl rfl ?_
  refine R_iald C hd y1 h dX10_shared_85 (fun x2 h => ?_)
  refine lv_aload_n hx hb dX10_shared_86 rfl (lv_at hl 1 rfl) ?_
  refine gX10_43 C hd (rfl : kd 142 = 10) (q := 146) rfl dX10_shared_87 (fun y3 => ?_)
  refine lv_iload_n hx hb dX10_shared_90 rfl (lv_at hl 2 rfl) ?_
  refine R_iald C hd y3 h dX10_shared_91 (fun x4 h => ?_)
  refine lv_iadd hx hb dX10_shared_92 ?_
  refine R_iast C hd y1 h dX10_shared_93 (fun S H locs hd h => ?_)
  refine lv_iload_n hx hb dX10_shared_94 rfl (lv_at hl 4 rfl) ?_
  refine lv_aload_n hx hb dX10_shared_95 rfl (lv_at hl 1 rfl) ?_
  refine lv_iload_n hx hb dX10_shared_96 rfl (lv_at hl 2 rfl) ?_
  refine lv_iconst (v := 1) hx hb dX10_shared_97 (by decide) ?_
  refine lv_iadd hx hb dX10_shared_98 ?_
  refine lv_iload_n hx hb dX10_shared_99 rfl (lv_at hl 3 rfl) ?_
  obtain ⟨x5, S1, hc, h⟩ := bd_some h
  refine R_cVi C hd (hrx (l1 + 1) l2 _ _ hc) kX10_444 rfl (by decide) (rfl : kd 142 = 10) hl.1 ⟨by simp only [rmL]; omega, by simp only [rmL]; omega⟩ rfl rfl (Nat.le_of_ble_eq_true rfl) dX10_shared_100 ⟨Nat.zero_le _, Nat.zero_le _⟩ (fun H locs hd => ?_)
  generalize S1 = S at h hd
  refine R_mmin C hl.1 kmX10_204 (Nat.le_of_ble_eq_true rfl) (Nat.le_of_ble_eq_true rfl) (Nat.le_of_ble_eq_true rfl) (Nat.le_of_ble_eq_true rfl) dX10_shared_103 ?_
  refine R_vl h (fun x6 h => ?_)
  refine lv_istore_n (lv' := [(3, .int x6), (4, .int s0), (0, .ref (gR G 142)), (1, .int l1), (2, .int l2), (5, .int l5)]) hx hb dX10_shared_106 rfl hl (by decide) rfl (fun ls hl => ?_)
  refine lv_aload_n hx hb dX10_shared_107 rfl (lv_at hl 2 rfl) ?_
  refine gX10_125 C hd (rfl : kd 142 = 10) (q := 172) rfl dX10_shared_108 (fun y7 => ?_)
  refine lv_iload hx hb dX10_shared_111 (lv_at hl 5 rfl) ?_
  refine lv_dup2_11 hx hb dX10_shared_113 rfl rfl ?_
  refine R_iald C hd y7 h dX10_shared_114 (fun x8 h => ?_)
  refine lv_aload_n hx hb dX10_shared_115 rfl (lv_at hl 2 rfl) ?_
  refine gX10_43 C hd (rfl : kd 142 = 10) (q := 146) rfl dX10_shared_116 (fun y9 => ?_)
  refine lv_iload_n hx hb dX10_shared_119 rfl (lv_at hl 3 rfl) ?_
  refine R_iald C hd y9 h dX10_shared_120 (fun x10 h => ?_)
  refine lv_isub hx hb dX10_shared_121 ?_
  refine R_iast C hd y7 h dX10_shared_122 (fun S H locs hd h => ?_)
  refine R_vi h (fun x11 ex11 h => ?_)
  refine lv_iinc (v := x11) (lv' := [(5, .int x11), (3, .int x6), (4, .int s0), (0, .ref (gR G 142)), (1, .int l1), (2, .int l2)]) hx hb dX10_shared_123 hl (k := 5) rfl (by rw [ex11]; rfl) (by decide) rfl (fun ls hl => ?_)
  refine lv_goto (tgt := 50) hx hb dX10_shared_126 (by decide) ?_
  exact hr50 l1 l2 x6 s0 x11 _ _ _ _ _  hd (lv_sub hl [3, 4, 5, 1, 2, 0] rfl) h
def KX10_shared_50 (rx : Int32 → Int32 → St → Option (Int32 × St)) (r50 : Int32 → Int32 → Int32 → Int32 → Int32 → St → Option (Int32 × St)) (l1 : Int32) (l2 : Int32) (l3 : Int32) (l4 : Int32) (l5 : Int32) (S : St) : Option (Int32 × St) :=
  (if l2 ≤ l5 then ri l3 S else (if l4 = 0 then rd S 172 l5 fun x4 => (if x4 = 0 then (BX10_shared_76 rx r50 l1 l2 l3 l5 1 S) else (BX10_shared_76 rx r50 l1 l2 l3 l5 0 S)) else ri l3 S))
set_option maxHeartbeats 4000000 in
set_option maxRecDepth 20000 in
theorem sKX10_shared_50 (C : Cx p s m args meth c cX10_shared 6 RX10 G) (hr : meth.sig.returnType = some .int) {rx : Int32 → Int32 → St → Option (Int32 × St)} {r50 : Int32 → Int32 → Int32 → Int32 → Int32 → St → Option (Int32 × St)} {dx : Nat} (hrx : ∀ (a1 a2 : Int32) (S : St) (res : Int32 × St), rx a1 a2 S = some res → Met l yX10_shared (wm yX10_shared cX10_shared 6 (some .int)) (rmL dx 0 0) (PcW G S [.ref (gR G 142), .int a1, .int a2]) (QI G res.1 res.2) 0 0 (Ab G)) (hr50 : ∀ (l1 : Int32) (l2 : Int32) (l3 : Int32) (l4 : Int32) (l5 : Int32) (S : St) (res : (Int32 × St)) (H : Heap) (locs : List Loc) (ls : Array Slot), Dy G S s H locs → lv_has ls 6 [(0, .ref (gR G 142)), (1, .int l1), (2, .int l2), (3, .int l3), (4, .int l4), (5, .int l5)] → r50 l1 l2 l3 l4 l5 S = some res → W p l e (rmL (dx + 4) 0 0) s m args below meth c H locs 0 0 (MQ below (QI G res.1 res.2) args s 0 0 (Ab G)) (F0 m 50 ls [])) {l1 : Int32} {l2 : Int32} {l3 : Int32} {l4 : Int32} {l5 : Int32} {S : St} {res : (Int32 × St)} {H : Heap} {locs : List Loc} {ls : Array Slot}  (hd : Dy G S s H locs) (hl : lv_has ls 6 [(0, .ref (gR G 142)), (1, .int l1), (2, .int l2), (3, .int l3), (4, .int l4), (5, .int l5)]) (h : KX10_shared_50 rx r50 l1 l2 l3 l4 l5 S = some res) : W p l e (rmL (dx + 4) 0 0) s m args below meth c H locs 0 0 (MQ below (QI G res.1 res.2) args s 0 0 (Ab G)) (F0 m 50 ls []) := by
  unfold KX10_shared_50 at h
  have hx := C.1.1
  have hb := C.1.2.1
  refine lv_iload hx hb dX10_shared_50 (lv_at hl 5 rfl) ?_
  refine lv_iload_n hx hb dX10_shared_52 rfl (lv_at hl 2 rfl) ?_
  refine lv_icmp_ge (tgt := 129) hx hb dX10_shared_53 (by decide) (fun c1 => ?_) (fun c1 => ?_)
  · rw [if_pos c1] at h
    refine lv_iload_n hx hb dX10_shared_129 rfl (lv_at hl 3 rfl) ?_
    exact R_iret C hr hd h dX10_shared_130
  · rw [if_neg c1] at h
    refine lv_iload hx hb dX10_shared_56 (lv_at hl 4 rfl) ?_
    refine lv_if_ne (tgt := 129) hx hb dX10_shared_58 (by decide) (fun c2 => ?_) (fun c2 => ?_)
    · rw [if_neg c2] at h
      refine lv_iload_n hx hb dX10_shared_129 rfl (lv_at hl 3 rfl) ?_
      exact R_iret C hr hd h dX10_shared_130
    · rw [if_pos c2] at h
      refine lv_aload_n hx hb dX10_shared_61 rfl (lv_at hl 0 rfl) ?_
      refine gX10_125 C hd (rfl : kd 142 = 10) (q := 172) rfl dX10_shared_62 (fun y3 => ?_)
      refine lv_iload hx hb dX10_shared_65 (lv_at hl 5 rfl) ?_
      refine R_iald C hd y3 h dX10_shared_67 (fun x4 h => ?_)
      refine lv_if_ne (tgt := 75) hx hb dX10_shared_68 (by decide) (fun c5 => ?_) (fun c5 => ?_)
      · rw [if_neg c5] at h
        refine lv_iconst (v := 0) hx hb dX10_shared_75 (by decide) ?_
        exact sBX10_shared_76 C hr hrx hr50  hd (lv_sub hl [0, 1, 2, 3, 5] rfl) h
      · rw [if_pos c5] at h
        refine lv_iconst (v := 1) hx hb dX10_shared_71 (by decide) ?_
        refine lv_goto (tgt := 76) hx hb dX10_shared_72 (by decide) ?_
        exact sBX10_shared_76 C hr hrx hr50  hd (lv_sub hl [0, 1, 2, 3, 5] rfl) h
def LX10_shared_50 (rx : Int32 → Int32 → St → Option (Int32 × St)) : Nat → Int32 → Int32 → Int32 → Int32 → Int32 → St → Option (Int32 × St)
  | 0 => fun _ _ _ _ _ _ => none
  | n + 1 => fun l1 l2 l3 l4 l5 S => KX10_shared_50 rx (LX10_shared_50 rx n) l1 l2 l3 l4 l5 S
theorem sLX10_shared_50 (C : Cx p s m args meth c cX10_shared 6 RX10 G) (hr : meth.sig.returnType = some .int) {rx : Int32 → Int32 → St → Option (Int32 × St)} {dx : Nat} (hrx : ∀ (a1 a2 : Int32) (S : St) (res : Int32 × St), rx a1 a2 S = some res → Met l yX10_shared (wm yX10_shared cX10_shared 6 (some .int)) (rmL dx 0 0) (PcW G S [.ref (gR G 142), .int a1, .int a2]) (QI G res.1 res.2) 0 0 (Ab G)) : ∀ (n : Nat) (l1 : Int32) (l2 : Int32) (l3 : Int32) (l4 : Int32) (l5 : Int32) (S : St) (res : (Int32 × St)) (H : Heap) (locs : List Loc) (ls : Array Slot), Dy G S s H locs → lv_has ls 6 [(0, .ref (gR G 142)), (1, .int l1), (2, .int l2), (3, .int l3), (4, .int l4), (5, .int l5)] → LX10_shared_50 rx n l1 l2 l3 l4 l5 S = some res → W p l e (rmL (dx + 4) 0 0) s m args below meth c H locs 0 0 (MQ below (QI G res.1 res.2) args s 0 0 (Ab G)) (F0 m 50 ls []) := by
  intro n
  induction n with
  | zero => intro l1 l2 l3 l4 l5 S res H locs ls  hd hl h; cases h
  | succ n ih =>
    intro l1 l2 l3 l4 l5 S res H locs ls  hd hl h
    exact sKX10_shared_50 C hr hrx ih  hd hl h
def KX10_shared_15 (rx : Int32 → Int32 → St → Option (Int32 × St)) (r15 : Int32 → Int32 → Int32 → St → Option (Int32 × St)) (l2 : Int32) (l3 : Int32) (l4 : Int32) (S : St) : Option (Int32 × St) :=
  (if l2 ≤ l4 then ri l3 S else rd S 172 l4 fun x3 => vl (if l3 < x3 then x3 else l3) fun x4 => vl (l4 + 1) fun x5 => (r15 l2 x4 x5 S))
set_option maxHeartbeats 4000000 in
set_option maxRecDepth 20000 in
theorem sKX10_shared_15 (C : Cx p s m args meth c cX10_shared 6 RX10 G) (hr : meth.sig.returnType = some .int) {rx : Int32 → Int32 → St → Option (Int32 × St)} {r15 : Int32 → Int32 → Int32 → St → Option (Int32 × St)} {dx : Nat} (hrx : ∀ (a1 a2 : Int32) (S : St) (res : Int32 × St), rx a1 a2 S = some res → Met l yX10_shared (wm yX10_shared cX10_shared 6 (some .int)) (rmL dx 0 0) (PcW G S [.ref (gR G 142), .int a1, .int a2]) (QI G res.1 res.2) 0 0 (Ab G)) (hr15 : ∀ (l2 : Int32) (l3 : Int32) (l4 : Int32) (S : St) (res : (Int32 × St)) (H : Heap) (locs : List Loc) (ls : Array Slot), Dy G S s H locs → lv_has ls 6 [(0, .ref (gR G 142)), (2, .int l2), (3, .int l3), (4, .int l4)] → r15 l2 l3 l4 S = some res → W p l e (rmL (dx + 4) 0 0) s m args below meth c H locs 0 0 (MQ below (QI G res.1 res.2) args s 0 0 (Ab G)) (F0 m 15 ls [])) {l2 : Int32} {l3 : Int32} {l4 : Int32} {S : St} {res : (Int32 × St)} {H : Heap} {locs : List Loc} {ls : Array Slot}  (hd : Dy G S s H locs) (hl : lv_has ls 6 [(0, .ref (gR G 142)), (2, .int l2), (3, .int l3), (4, .int l4)]) (h : KX10_shared_15 rx r15 l2 l3 l4 S = some res) : W p l e (rmL (dx + 4) 0 0) s m args below meth c H locs 0 0 (MQ below (QI G res.1 res.2) args s 0 0 (Ab G)) (F0 m 15 ls []) := by
  unfold KX10_shared_15 at h
  have hx := C.1.1
  have hb := C.1.2.1
  refine lv_iload hx hb dX10_shared_15 (lv_at hl 3 rfl) ?_
  refine lv_iload_n hx hb dX10_shared_17 rfl (lv_at hl 1 rfl) ?_
  refine lv_icmp_ge (tgt := 39) hx hb dX10_shared_18 (by decide) (fun c1 => ?_) (fun c1 => ?_)
  · rw [if_pos c1] at h
    refine lv_iload_n hx hb dX10_shared_39 rfl (lv_at hl 2 rfl) ?_
    exact R_iret C hr hd h dX10_shared_40
  · rw [if_neg c1] at h
    refine lv_iload_n hx hb dX10_shared_21 rfl (lv_at hl 2 rfl) ?_
    refine lv_aload_n hx hb dX10_shared_22 rfl (lv_at hl 0 rfl) ?_
    refine gX10_125 C hd (rfl : kd 142 = 10) (q := 172) rfl dX10_shared_23 (fun y2 => ?_)
    refine lv_iload hx hb dX10_shared_26 (lv_at hl 3 rfl) ?_
    refine R_iald C hd y2 h dX10_shared_28 (fun x3 h => ?_)
    refine R_mmax C hl.1 kmX10_369 (Nat.le_of_ble_eq_true rfl) (Nat.le_of_ble_eq_true rfl) (Nat.le_of_ble_eq_true rfl) (Nat.le_of_ble_eq_true rfl) dX10_shared_29 ?_
    refine R_vl h (fun x4 h => ?_)
    refine lv_istore_n (lv' := [(3, .int x4), (0, .ref (gR G 142)), (2, .int l2), (4, .int l4)]) hx hb dX10_shared_32 rfl hl (by decide) rfl (fun ls hl => ?_)
    refine R_vi h (fun x5 ex5 h => ?_)
    refine lv_iinc (v := x5) (lv' := [(4, .int x5), (3, .int x4), (0, .ref (gR G 142)), (2, .int l2)]) hx hb dX10_shared_33 hl (k := 3) rfl (by rw [ex5]; rfl) (by decide) rfl (fun ls hl => ?_)
    refine lv_goto (tgt := 15) hx hb dX10_shared_36 (by decide) ?_
    exact hr15 l2 x4 x5 _ _ _ _ _  hd (lv_sub hl [2, 3, 1, 0] rfl) h
def LX10_shared_15 (rx : Int32 → Int32 → St → Option (Int32 × St)) : Nat → Int32 → Int32 → Int32 → St → Option (Int32 × St)
  | 0 => fun _ _ _ _ => none
  | n + 1 => fun l2 l3 l4 S => KX10_shared_15 rx (LX10_shared_15 rx n) l2 l3 l4 S
theorem sLX10_shared_15 (C : Cx p s m args meth c cX10_shared 6 RX10 G) (hr : meth.sig.returnType = some .int) {rx : Int32 → Int32 → St → Option (Int32 × St)} {dx : Nat} (hrx : ∀ (a1 a2 : Int32) (S : St) (res : Int32 × St), rx a1 a2 S = some res → Met l yX10_shared (wm yX10_shared cX10_shared 6 (some .int)) (rmL dx 0 0) (PcW G S [.ref (gR G 142), .int a1, .int a2]) (QI G res.1 res.2) 0 0 (Ab G)) : ∀ (n : Nat) (l2 : Int32) (l3 : Int32) (l4 : Int32) (S : St) (res : (Int32 × St)) (H : Heap) (locs : List Loc) (ls : Array Slot), Dy G S s H locs → lv_has ls 6 [(0, .ref (gR G 142)), (2, .int l2), (3, .int l3), (4, .int l4)] → LX10_shared_15 rx n l2 l3 l4 S = some res → W p l e (rmL (dx + 4) 0 0) s m args below meth c H locs 0 0 (MQ below (QI G res.1 res.2) args s 0 0 (Ab G)) (F0 m 15 ls []) := by
  intro n
  induction n with
  | zero => intro l2 l3 l4 S res H locs ls  hd hl h; cases h
  | succ n ih =>
    intro l2 l3 l4 S res H locs ls  hd hl h
    exact sKX10_shared_15 C hr hrx ih  hd hl h
def fX10_shared_b (rx : Int32 → Int32 → St → Option (Int32 × St)) (a1 : Int32) (a2 : Int32) (S : St) : Option (Int32 × St) :=
  rd S 145 0 fun x2 => (if a1 = x2 then (LX10_shared_15 rx FU a2 0 0 S) else (LX10_shared_50 rx FU a1 a2 100000 0 0 S))
set_option maxHeartbeats 4000000 in
set_option maxRecDepth 20000 in
theorem sfX10_shared_b (C : Cx p s m args meth c cX10_shared 6 RX10 G) (hr : meth.sig.returnType = some .int) {rx : Int32 → Int32 → St → Option (Int32 × St)} {dx : Nat} (hrx : ∀ (a1 a2 : Int32) (S : St) (res : Int32 × St), rx a1 a2 S = some res → Met l yX10_shared (wm yX10_shared cX10_shared 6 (some .int)) (rmL dx 0 0) (PcW G S [.ref (gR G 142), .int a1, .int a2]) (QI G res.1 res.2) 0 0 (Ab G)) {a1 : Int32} {a2 : Int32} {S : St} {res : (Int32 × St)} {H : Heap} {locs : List Loc} {ls : Array Slot}  (hd : Dy G S s H locs) (hl : lv_has ls 6 [(0, .ref (gR G 142)), (1, .int a1), (2, .int a2)]) (h : fX10_shared_b rx a1 a2 S = some res) : W p l e (rmL (dx + 4) 0 0) s m args below meth c H locs 0 0 (MQ below (QI G res.1 res.2) args s 0 0 (Ab G)) (F0 m 0 ls []) := by
  unfold fX10_shared_b at h
  have hx := C.1.1
  have hb := C.1.2.1
  refine lv_iload_n hx hb dX10_shared_0 rfl (lv_at hl 1 rfl) ?_
  refine lv_aload_n hx hb dX10_shared_1 rfl (lv_at hl 0 rfl) ?_
  refine gX10_39 C hd (rfl : kd 142 = 10) (q := 145) rfl dX10_shared_2 (fun y1 => ?_)
  refine lv_iconst (v := 0) hx hb dX10_shared_5 (by decide) ?_
  refine R_iald C hd y1 h dX10_shared_6 (fun x2 h => ?_)
  refine lv_icmp_ne (tgt := 41) hx hb dX10_shared_7 (by decide) (fun c3 => ?_) (fun c3 => ?_)
  · rw [if_neg c3] at h
    refine lv_ldc hx hb C.1.2.2.2.1 (C.1.2.2.2.2 _ kcX10_203) dX10_shared_41 ?_
    refine lv_istore_n (lv' := [(3, .int 100000), (0, .ref (gR G 142)), (1, .int a1), (2, .int a2)]) hx hb dX10_shared_43 rfl hl (by decide) rfl (fun ls hl => ?_)
    refine lv_iconst (v := 0) hx hb dX10_shared_44 (by decide) ?_
    refine lv_istore (lv' := [(4, .int 0), (3, .int 100000), (0, .ref (gR G 142)), (1, .int a1), (2, .int a2)]) hx hb dX10_shared_45 hl (by decide) rfl (fun ls hl => ?_)
    refine lv_iconst (v := 0) hx hb dX10_shared_47 (by decide) ?_
    refine lv_istore (lv' := [(5, .int 0), (4, .int 0), (3, .int 100000), (0, .ref (gR G 142)), (1, .int a1), (2, .int a2)]) hx hb dX10_shared_48 hl (by decide) rfl (fun ls hl => ?_)
    exact sLX10_shared_50 C hr hrx _ a1 a2 100000 0 0 _ _ _ _ _  hd (lv_sub hl [3, 4, 5, 2, 1, 0] rfl) h
  · rw [if_pos c3] at h
    refine lv_iconst (v := 0) hx hb dX10_shared_10 (by decide) ?_
    refine lv_istore_n (lv' := [(3, .int 0), (0, .ref (gR G 142)), (1, .int a1), (2, .int a2)]) hx hb dX10_shared_11 rfl hl (by decide) rfl (fun ls hl => ?_)
    refine lv_iconst (v := 0) hx hb dX10_shared_12 (by decide) ?_
    refine lv_istore (lv' := [(4, .int 0), (3, .int 0), (0, .ref (gR G 142)), (1, .int a1), (2, .int a2)]) hx hb dX10_shared_13 hl (by decide) rfl (fun ls hl => ?_)
    exact sLX10_shared_15 C hr hrx _ a2 0 0 _ _ _ _ _  hd (lv_sub hl [2, 4, 1, 0] rfl) h
set_option maxRecDepth 20000 in
theorem ccX10_shared_b (l : Launch) (G : Gt) {rx : Int32 → Int32 → St → Option (Int32 × St)} {dx : Nat} (hrx : ∀ (a1 a2 : Int32) (S : St) (res : Int32 × St), rx a1 a2 S = some res → Met l yX10_shared (wm yX10_shared cX10_shared 6 (some .int)) (rmL dx 0 0) (PcW G S [.ref (gR G 142), .int a1, .int a2]) (QI G res.1 res.2) 0 0 (Ab G)) {a1 : Int32} {a2 : Int32} {S : St} {res : (Int32 × St)}  (h : fX10_shared_b rx a1 a2 S = some res) : Met l yX10_shared (wm yX10_shared cX10_shared 6 (some .int)) (rmL (dx + 4) 0 0) (PcW G S [.ref (gR G 142), .int a1, .int a2]) (QI G res.1 res.2) 0 0 (Ab G) := by
  refine Met.ofW (cc := cX10_shared) (maxL := 6) (ret := (some .int)) (by decide) rfl ?_
  intro p e s m args below meth c s₁ B hml hv
  obtain ⟨rfl, hK, hP⟩ := hv
  have C : Cx p s m _ meth c cX10_shared 6 RX10 G := ⟨⟨B.exec, B.bytes, hml, findClass_of_methodNamed B.named, fun w hw => atoms_spec (ws := wm yX10_shared cX10_shared 6 (some .int)) B.pre w (List.mem_cons_of_mem _ hw)⟩, B.notSynchronized, hK⟩
  have hl := lv_entry ([.ref (gR G 142), .int a1, .int a2]) (n := 6) (Nat.le_of_ble_eq_true rfl)
  rw [lg_entry_eq]
  generalize (lg_sl ([.ref (gR G 142), .int a1, .int a2]) ++ List.replicate (6 - (lg_sl ([.ref (gR G 142), .int a1, .int a2])).length) Slot.unset).toArray = ls at hl ⊢
  exact sfX10_shared_b C B.returns hrx  ⟨hP, va_S.rf⟩ hl h
def fX10_shared : Nat → Int32 → Int32 → St → Option (Int32 × St)
  | 0 => fun _ _ _ => none
  | n + 1 => fun a1 a2 S => fX10_shared_b (fX10_shared n) a1 a2 S
theorem ccX10_shared (l : Launch) (G : Gt) : ∀ (n : Nat) {a1 a2 : Int32} {S : St} {res : Int32 × St}, fX10_shared n a1 a2 S = some res → Met l yX10_shared (wm yX10_shared cX10_shared 6 (some .int)) (rmL (4 * n) 0 0) (PcW G S [.ref (gR G 142), .int a1, .int a2]) (QI G res.1 res.2) 0 0 (Ab G)
  | 0, _, _, _, _, h => by cases h
  | n + 1, a1, a2, S, res, h => ccX10_shared_b l G (rx := fX10_shared n) (dx := 4 * n) (fun a1 a2 S res h => ccX10_shared l G n h) h
def KX10_heirs_25 (r25 : Int32 → Int32 → St → Option (Int32 × St)) (l1 : Int32) (l2 : Int32) (S : St) : Option (Int32 × St) :=
  (if 4 ≤ l2 then bd (fX10_shared 10 0 l1 S) fun x2 S => ri x2 S else wr S 172 l2 0 fun S => vl (l2 + 1) fun x4 => (r25 l1 x4 S))
set_option maxHeartbeats 4000000 in
set_option maxRecDepth 20000 in
theorem sKX10_heirs_25 (C : Cx p s m args meth c cX10_heirs 3 RX10 G) (hr : meth.sig.returnType = some .int) {r25 : Int32 → Int32 → St → Option (Int32 × St)} (hr25 : ∀ (l1 : Int32) (l2 : Int32) (S : St) (res : (Int32 × St)) (H : Heap) (locs : List Loc) (ls : Array Slot), Dy G S s H locs → lv_has ls 3 [(0, .ref (gR G 142)), (1, .int l1), (2, .int l2)] → r25 l1 l2 S = some res → W p l e (rmL 41 0 0) s m args below meth c H locs 0 0 (MQ below (QI G res.1 res.2) args s 0 0 (Ab G)) (F0 m 25 ls [])) {l1 : Int32} {l2 : Int32} {S : St} {res : (Int32 × St)} {H : Heap} {locs : List Loc} {ls : Array Slot}  (hd : Dy G S s H locs) (hl : lv_has ls 3 [(0, .ref (gR G 142)), (1, .int l1), (2, .int l2)]) (h : KX10_heirs_25 r25 l1 l2 S = some res) : W p l e (rmL 41 0 0) s m args below meth c H locs 0 0 (MQ below (QI G res.1 res.2) args s 0 0 (Ab G)) (F0 m 25 ls []) := by
  unfold KX10_heirs_25 at h
  have hx := C.1.1
  have hb := C.1.2.1
  refine lv_iload_n hx hb dX10_heirs_25 rfl (lv_at hl 2 rfl) ?_
  refine lv_iconst (v := 4) hx hb dX10_heirs_26 (by decide) ?_
  refine lv_icmp_ge (tgt := 43) hx hb dX10_heirs_27 (by decide) (fun c1 => ?_) (fun c1 => ?_)
  · rw [if_pos c1] at h
    refine lv_aload_n hx hb dX10_heirs_43 rfl (lv_at hl 0 rfl) ?_
    refine lv_iconst (v := 0) hx hb dX10_heirs_44 (by decide) ?_
    refine lv_iload_n hx hb dX10_heirs_45 rfl (lv_at hl 1 rfl) ?_
    obtain ⟨x2, S1, hc, h⟩ := bd_some h
    refine R_cVi C hd (ccX10_shared l G 10 hc) kX10_444 rfl (by decide) (rfl : kd 142 = 10) hl.1 ⟨by decide, by decide⟩ rfl rfl (Nat.le_of_ble_eq_true rfl) dX10_heirs_46 ⟨Nat.zero_le _, Nat.zero_le _⟩ (fun H locs hd => ?_)
    generalize S1 = S at h hd
    exact R_iret C hr hd h dX10_heirs_49
  · rw [if_neg c1] at h
    refine lv_aload_n hx hb dX10_heirs_30 rfl (lv_at hl 0 rfl) ?_
    refine gX10_125 C hd (rfl : kd 142 = 10) (q := 172) rfl dX10_heirs_31 (fun y3 => ?_)
    refine lv_iload_n hx hb dX10_heirs_34 rfl (lv_at hl 2 rfl) ?_
    refine lv_iconst (v := 0) hx hb dX10_heirs_35 (by decide) ?_
    refine R_iast C hd y3 h dX10_heirs_36 (fun S H locs hd h => ?_)
    refine R_vi h (fun x4 ex4 h => ?_)
    refine lv_iinc (v := x4) (lv' := [(2, .int x4), (0, .ref (gR G 142)), (1, .int l1)]) hx hb dX10_heirs_37 hl (k := 2) rfl (by rw [ex4]; rfl) (by decide) rfl (fun ls hl => ?_)
    refine lv_goto (tgt := 25) hx hb dX10_heirs_40 (by decide) ?_
    exact hr25 l1 x4 _ _ _ _ _  hd (lv_sub hl [1, 2, 0] rfl) h
def LX10_heirs_25 : Nat → Int32 → Int32 → St → Option (Int32 × St)
  | 0 => fun _ _ _ => none
  | n + 1 => fun l1 l2 S => KX10_heirs_25 (LX10_heirs_25 n) l1 l2 S
theorem sLX10_heirs_25 (C : Cx p s m args meth c cX10_heirs 3 RX10 G) (hr : meth.sig.returnType = some .int) : ∀ (n : Nat) (l1 : Int32) (l2 : Int32) (S : St) (res : (Int32 × St)) (H : Heap) (locs : List Loc) (ls : Array Slot), Dy G S s H locs → lv_has ls 3 [(0, .ref (gR G 142)), (1, .int l1), (2, .int l2)] → LX10_heirs_25 n l1 l2 S = some res → W p l e (rmL 41 0 0) s m args below meth c H locs 0 0 (MQ below (QI G res.1 res.2) args s 0 0 (Ab G)) (F0 m 25 ls []) := by
  intro n
  induction n with
  | zero => intro l1 l2 S res H locs ls  hd hl h; cases h
  | succ n ih =>
    intro l1 l2 S res H locs ls  hd hl h
    exact sKX10_heirs_25 C hr ih  hd hl h
def fX10_heirs (a1 : Int32) (S : St) : Option (Int32 × St) :=
  pf S 142 3 0 fun S => bd (fX10_isIn (a1.toInt64) 1 4 S) fun x1 S => (if x1 = 0 then bd (fX10_fail 1 S) fun x3 S => ri x3 S else (LX10_heirs_25 FU a1 0 S))
set_option maxHeartbeats 4000000 in
set_option maxRecDepth 20000 in
theorem sfX10_heirs (C : Cx p s m args meth c cX10_heirs 3 RX10 G) (hr : meth.sig.returnType = some .int) {a1 : Int32} {S : St} {res : (Int32 × St)} {H : Heap} {locs : List Loc} {ls : Array Slot}  (hd : Dy G S s H locs) (hl : lv_has ls 3 [(0, .ref (gR G 142)), (1, .int a1)]) (h : fX10_heirs a1 S = some res) : W p l e (rmL 41 0 0) s m args below meth c H locs 0 0 (MQ below (QI G res.1 res.2) args s 0 0 (Ab G)) (F0 m 0 ls []) := by
  unfold fX10_heirs at h
  have hx := C.1.1
  have hb := C.1.2.1
  refine lv_aload_n hx hb dX10_heirs_0 rfl (lv_at hl 0 rfl) ?_
  refine lv_iconst (v := 0) hx hb dX10_heirs_1 (by decide) ?_
  refine pX10_167 C hd (rfl : kd 142 = 10) h dX10_heirs_2 (fun S H locs hd h => ?_)
  refine lv_iload_n hx hb dX10_heirs_5 rfl (lv_at hl 1 rfl) ?_
  refine lv_i2l hx hb dX10_heirs_6 rfl ?_
  refine lv_lconst (v := 1) hx hb dX10_heirs_7 rfl ?_
  refine lv_ldc2 hx hb C.1.2.2.2.1 (C.1.2.2.2.2 _ kcX10_447) dX10_heirs_8 ?_
  obtain ⟨x1, S1, hc, h⟩ := bd_some h
  refine R_cSi C hd (ccX10_isIn l G  hc) kX10_170  hl.1 ⟨by decide, by decide⟩ rfl rfl (Nat.le_of_ble_eq_true rfl) dX10_heirs_11 ⟨Nat.zero_le _, Nat.zero_le _⟩ (fun H locs hd => ?_)
  generalize S1 = S at h hd
  refine lv_if_ne (tgt := 23) hx hb dX10_heirs_14 (by decide) (fun c2 => ?_) (fun c2 => ?_)
  · rw [if_neg c2] at h
    refine lv_iconst (v := 0) hx hb dX10_heirs_23 (by decide) ?_
    refine lv_istore_n (lv' := [(2, .int 0), (0, .ref (gR G 142)), (1, .int a1)]) hx hb dX10_heirs_24 rfl hl (by decide) rfl (fun ls hl => ?_)
    exact sLX10_heirs_25 C hr _ a1 0 _ _ _ _ _  hd (lv_sub hl [1, 2, 0] rfl) h
  · rw [if_pos c2] at h
    refine lv_aload_n hx hb dX10_heirs_17 rfl (lv_at hl 0 rfl) ?_
    refine lv_iconst (v := 1) hx hb dX10_heirs_18 (by decide) ?_
    obtain ⟨x3, S1, hc, h⟩ := bd_some h
    refine R_cVi C hd (ccX10_fail l G  hc) kX10_325 rfl (by decide) (rfl : kd 142 = 10) hl.1 ⟨by decide, by decide⟩ rfl rfl (Nat.le_of_ble_eq_true rfl) dX10_heirs_19 ⟨Nat.zero_le _, Nat.zero_le _⟩ (fun H locs hd => ?_)
    generalize S1 = S at h hd
    exact R_iret C hr hd h dX10_heirs_22
set_option maxRecDepth 20000 in
theorem ccX10_heirs (l : Launch) (G : Gt) {a1 : Int32} {S : St} {res : (Int32 × St)}  (h : fX10_heirs a1 S = some res) : Met l yX10_heirs (wm yX10_heirs cX10_heirs 3 (some .int)) (rmL 41 0 0) (PcW G S [.ref (gR G 142), .int a1]) (QI G res.1 res.2) 0 0 (Ab G) := by
  refine Met.ofW (cc := cX10_heirs) (maxL := 3) (ret := (some .int)) (by decide) rfl ?_
  intro p e s m args below meth c s₁ B hml hv
  obtain ⟨rfl, hK, hP⟩ := hv
  have C : Cx p s m _ meth c cX10_heirs 3 RX10 G := ⟨⟨B.exec, B.bytes, hml, findClass_of_methodNamed B.named, fun w hw => atoms_spec (ws := wm yX10_heirs cX10_heirs 3 (some .int)) B.pre w (List.mem_cons_of_mem _ hw)⟩, B.notSynchronized, hK⟩
  have hl := lv_entry ([.ref (gR G 142), .int a1]) (n := 3) (Nat.le_of_ble_eq_true rfl)
  rw [lg_entry_eq]
  generalize (lg_sl ([.ref (gR G 142), .int a1]) ++ List.replicate (3 - (lg_sl ([.ref (gR G 142), .int a1])).length) Slot.unset).toArray = ls at hl ⊢
  exact sfX10_heirs C B.returns  ⟨hP, va_S.rf⟩ hl h
def BX10_hear_26  (S : St) : Option (Int32 × St) :=
  bd (fX10_fail 1 S) fun x1 S => ri x1 S
set_option maxHeartbeats 4000000 in
set_option maxRecDepth 20000 in
theorem sBX10_hear_26 (C : Cx p s m args meth c cX10_hear 4 RX10 G) (hr : meth.sig.returnType = some .int)  {S : St} {res : (Int32 × St)} {H : Heap} {locs : List Loc} {ls : Array Slot}  (hd : Dy G S s H locs) (hl : lv_has ls 4 [(0, .ref (gR G 142))]) (h : BX10_hear_26  S = some res) : W p l e (rmL 5 0 0) s m args below meth c H locs 0 0 (MQ below (QI G res.1 res.2) args s 0 0 (Ab G)) (F0 m 26 ls []) := by
  unfold BX10_hear_26 at h
  have hx := C.1.1
  have hb := C.1.2.1
  refine lv_aload_n hx hb dX10_hear_26 rfl (lv_at hl 0 rfl) ?_
  refine lv_iconst (v := 1) hx hb dX10_hear_27 (by decide) ?_
  obtain ⟨x1, S1, hc, h⟩ := bd_some h
  refine R_cVi C hd (ccX10_fail l G  hc) kX10_325 rfl (by decide) (rfl : kd 142 = 10) hl.1 ⟨by decide, by decide⟩ rfl rfl (Nat.le_of_ble_eq_true rfl) dX10_hear_28 ⟨Nat.zero_le _, Nat.zero_le _⟩ (fun H locs hd => ?_)
  generalize S1 = S at h hd
  exact R_iret C hr hd h dX10_hear_31
def BX10_hear_53  (S : St) : Option (Int32 × St) :=
  bd (fX10_refuse 2 S) fun x1 S => ri x1 S
set_option maxHeartbeats 4000000 in
set_option maxRecDepth 20000 in
theorem sBX10_hear_53 (C : Cx p s m args meth c cX10_hear 4 RX10 G) (hr : meth.sig.returnType = some .int)  {S : St} {res : (Int32 × St)} {H : Heap} {locs : List Loc} {ls : Array Slot}  (hd : Dy G S s H locs) (hl : lv_has ls 4 [(0, .ref (gR G 142))]) (h : BX10_hear_53  S = some res) : W p l e (rmL 5 0 0) s m args below meth c H locs 0 0 (MQ below (QI G res.1 res.2) args s 0 0 (Ab G)) (F0 m 53 ls []) := by
  unfold BX10_hear_53 at h
  have hx := C.1.1
  have hb := C.1.2.1
  refine lv_aload_n hx hb dX10_hear_53 rfl (lv_at hl 0 rfl) ?_
  refine lv_iconst (v := 2) hx hb dX10_hear_54 (by decide) ?_
  obtain ⟨x1, S1, hc, h⟩ := bd_some h
  refine R_cVi C hd (ccX10_refuse l G  hc) kX10_412 rfl (by decide) (rfl : kd 142 = 10) hl.1 ⟨by decide, by decide⟩ rfl rfl (Nat.le_of_ble_eq_true rfl) dX10_hear_55 ⟨Nat.zero_le _, Nat.zero_le _⟩ (fun H locs hd => ?_)
  generalize S1 = S at h hd
  exact R_iret C hr hd h dX10_hear_58
def BX10_hear_32 (l1 : Int32) (l2 : Int32) (l3 : Int32) (S : St) : Option (Int32 × St) :=
  (if (S 142 37) = 8 then (BX10_hear_53  S) else bd (fX10_isIn (l2.toInt64) 1 30 S) fun x2 S => (if x2 = 0 then (BX10_hear_53  S) else wr S 173 (S 142 37) l1 fun S => wr S 174 (S 142 37) l2 fun S => wr S 175 (S 142 37) l3 fun S => pf S 142 37 ((S 142 37) + 1) fun S => ri (S 142 37) S))
set_option maxHeartbeats 4000000 in
set_option maxRecDepth 20000 in
theorem sBX10_hear_32 (C : Cx p s m args meth c cX10_hear 4 RX10 G) (hr : meth.sig.returnType = some .int) {l1 : Int32} {l2 : Int32} {l3 : Int32} {S : St} {res : (Int32 × St)} {H : Heap} {locs : List Loc} {ls : Array Slot}  (hd : Dy G S s H locs) (hl : lv_has ls 4 [(0, .ref (gR G 142)), (1, .int l1), (2, .int l2), (3, .int l3)]) (h : BX10_hear_32 l1 l2 l3 S = some res) : W p l e (rmL 5 0 0) s m args below meth c H locs 0 0 (MQ below (QI G res.1 res.2) args s 0 0 (Ab G)) (F0 m 32 ls []) := by
  unfold BX10_hear_32 at h
  have hx := C.1.1
  have hb := C.1.2.1
  refine lv_aload_n hx hb dX10_hear_32 rfl (lv_at hl 0 rfl) ?_
  refine gX10_349 C hd (rfl : kd 142 = 10) dX10_hear_33 ?_
  refine lv_bipush (v := 8) hx hb dX10_hear_36 (by decide) ?_
  refine lv_icmp_eq (tgt := 53) hx hb dX10_hear_38 (by decide) (fun c1 => ?_) (fun c1 => ?_)
  · rw [if_pos c1] at h
    exact sBX10_hear_53 C hr  hd (lv_sub hl [0] rfl) h
  · rw [if_neg c1] at h
    refine lv_iload_n hx hb dX10_hear_41 rfl (lv_at hl 2 rfl) ?_
    refine lv_i2l hx hb dX10_hear_42 rfl ?_
    refine lv_lconst (v := 1) hx hb dX10_hear_43 rfl ?_
    refine lv_ldc2 hx hb C.1.2.2.2.1 (C.1.2.2.2.2 _ kcX10_410) dX10_hear_44 ?_
    obtain ⟨x2, S1, hc, h⟩ := bd_some h
    refine R_cSi C hd (ccX10_isIn l G  hc) kX10_170  hl.1 ⟨by decide, by decide⟩ rfl rfl (Nat.le_of_ble_eq_true rfl) dX10_hear_47 ⟨Nat.zero_le _, Nat.zero_le _⟩ (fun H locs hd => ?_)
    generalize S1 = S at h hd
    refine lv_if_ne (tgt := 59) hx hb dX10_hear_50 (by decide) (fun c3 => ?_) (fun c3 => ?_)
    · rw [if_neg c3] at h
      refine lv_aload_n hx hb dX10_hear_59 rfl (lv_at hl 0 rfl) ?_
      refine gX10_128 C hd (rfl : kd 142 = 10) (q := 173) rfl dX10_hear_60 (fun y4 => ?_)
      refine lv_aload_n hx hb dX10_hear_63 rfl (lv_at hl 0 rfl) ?_
      refine gX10_349 C hd (rfl : kd 142 = 10) dX10_hear_64 ?_
      refine lv_iload_n hx hb dX10_hear_67 rfl (lv_at hl 1 rfl) ?_
      refine R_iast C hd y4 h dX10_hear_68 (fun S H locs hd h => ?_)
      refine lv_aload_n hx hb dX10_hear_69 rfl (lv_at hl 0 rfl) ?_
      refine gX10_131 C hd (rfl : kd 142 = 10) (q := 174) rfl dX10_hear_70 (fun y5 => ?_)
      refine lv_aload_n hx hb dX10_hear_73 rfl (lv_at hl 0 rfl) ?_
      refine gX10_349 C hd (rfl : kd 142 = 10) dX10_hear_74 ?_
      refine lv_iload_n hx hb dX10_hear_77 rfl (lv_at hl 2 rfl) ?_
      refine R_iast C hd y5 h dX10_hear_78 (fun S H locs hd h => ?_)
      refine lv_aload_n hx hb dX10_hear_79 rfl (lv_at hl 0 rfl) ?_
      refine gX10_134 C hd (rfl : kd 142 = 10) (q := 175) rfl dX10_hear_80 (fun y6 => ?_)
      refine lv_aload_n hx hb dX10_hear_83 rfl (lv_at hl 0 rfl) ?_
      refine gX10_349 C hd (rfl : kd 142 = 10) dX10_hear_84 ?_
      refine lv_iload_n hx hb dX10_hear_87 rfl (lv_at hl 3 rfl) ?_
      refine R_iast C hd y6 h dX10_hear_88 (fun S H locs hd h => ?_)
      refine lv_aload_n hx hb dX10_hear_89 rfl (lv_at hl 0 rfl) ?_
      refine lv_dup hx hb dX10_hear_90 rfl ?_
      refine gX10_349 C hd (rfl : kd 142 = 10) dX10_hear_91 ?_
      refine lv_iconst (v := 1) hx hb dX10_hear_94 (by decide) ?_
      refine lv_iadd hx hb dX10_hear_95 ?_
      refine pX10_349 C hd (rfl : kd 142 = 10) h dX10_hear_96 (fun S H locs hd h => ?_)
      refine lv_aload_n hx hb dX10_hear_99 rfl (lv_at hl 0 rfl) ?_
      refine gX10_349 C hd (rfl : kd 142 = 10) dX10_hear_100 ?_
      exact R_iret C hr hd h dX10_hear_103
    · rw [if_pos c3] at h
      exact sBX10_hear_53 C hr  hd (lv_sub hl [0] rfl) h
def fX10_hear (a1 : Int32) (a2 : Int32) (a3 : Int32) (S : St) : Option (Int32 × St) :=
  pf S 142 3 0 fun S => bd (fX10_isField a1 S) fun x1 S => (if x1 = 0 then (BX10_hear_26  S) else (if a3 = (-1) then (BX10_hear_32 a1 a2 a3 S) else bd (fX10_isField a3 S) fun x4 S => (if x4 = 0 then (BX10_hear_26  S) else (BX10_hear_32 a1 a2 a3 S))))
set_option maxHeartbeats 4000000 in
set_option maxRecDepth 20000 in
theorem sfX10_hear (C : Cx p s m args meth c cX10_hear 4 RX10 G) (hr : meth.sig.returnType = some .int) {a1 : Int32} {a2 : Int32} {a3 : Int32} {S : St} {res : (Int32 × St)} {H : Heap} {locs : List Loc} {ls : Array Slot}  (hd : Dy G S s H locs) (hl : lv_has ls 4 [(0, .ref (gR G 142)), (1, .int a1), (2, .int a2), (3, .int a3)]) (h : fX10_hear a1 a2 a3 S = some res) : W p l e (rmL 5 0 0) s m args below meth c H locs 0 0 (MQ below (QI G res.1 res.2) args s 0 0 (Ab G)) (F0 m 0 ls []) := by
  unfold fX10_hear at h
  have hx := C.1.1
  have hb := C.1.2.1
  refine lv_aload_n hx hb dX10_hear_0 rfl (lv_at hl 0 rfl) ?_
  refine lv_iconst (v := 0) hx hb dX10_hear_1 (by decide) ?_
  refine pX10_167 C hd (rfl : kd 142 = 10) h dX10_hear_2 (fun S H locs hd h => ?_)
  refine lv_aload_n hx hb dX10_hear_5 rfl (lv_at hl 0 rfl) ?_
  refine lv_iload_n hx hb dX10_hear_6 rfl (lv_at hl 1 rfl) ?_
  obtain ⟨x1, S1, hc, h⟩ := bd_some h
  refine R_cVi C hd (ccX10_isField l G  hc) kX10_392 rfl (by decide) (rfl : kd 142 = 10) hl.1 ⟨by decide, by decide⟩ rfl rfl (Nat.le_of_ble_eq_true rfl) dX10_hear_7 ⟨Nat.zero_le _, Nat.zero_le _⟩ (fun H locs hd => ?_)
  generalize S1 = S at h hd
  refine lv_if_eq (tgt := 26) hx hb dX10_hear_10 (by decide) (fun c2 => ?_) (fun c2 => ?_)
  · rw [if_pos c2] at h
    exact sBX10_hear_26 C hr  hd (lv_sub hl [0] rfl) h
  · rw [if_neg c2] at h
    refine lv_iload_n hx hb dX10_hear_13 rfl (lv_at hl 3 rfl) ?_
    refine lv_iconst (v := -1) hx hb dX10_hear_14 (by decide) ?_
    refine lv_icmp_eq (tgt := 32) hx hb dX10_hear_15 (by decide) (fun c3 => ?_) (fun c3 => ?_)
    · rw [if_pos c3] at h
      exact sBX10_hear_32 C hr  hd (lv_sub hl [0, 1, 2, 3] rfl) h
    · rw [if_neg c3] at h
      refine lv_aload_n hx hb dX10_hear_18 rfl (lv_at hl 0 rfl) ?_
      refine lv_iload_n hx hb dX10_hear_19 rfl (lv_at hl 3 rfl) ?_
      obtain ⟨x4, S1, hc, h⟩ := bd_some h
      refine R_cVi C hd (ccX10_isField l G  hc) kX10_392 rfl (by decide) (rfl : kd 142 = 10) hl.1 ⟨by decide, by decide⟩ rfl rfl (Nat.le_of_ble_eq_true rfl) dX10_hear_20 ⟨Nat.zero_le _, Nat.zero_le _⟩ (fun H locs hd => ?_)
      generalize S1 = S at h hd
      refine lv_if_ne (tgt := 32) hx hb dX10_hear_23 (by decide) (fun c5 => ?_) (fun c5 => ?_)
      · rw [if_neg c5] at h
        exact sBX10_hear_32 C hr  hd (lv_sub hl [0, 1, 2, 3] rfl) h
      · rw [if_pos c5] at h
        exact sBX10_hear_26 C hr  hd (lv_sub hl [0] rfl) h
set_option maxRecDepth 20000 in
theorem ccX10_hear (l : Launch) (G : Gt) {a1 : Int32} {a2 : Int32} {a3 : Int32} {S : St} {res : (Int32 × St)}  (h : fX10_hear a1 a2 a3 S = some res) : Met l yX10_hear (wm yX10_hear cX10_hear 4 (some .int)) (rmL 5 0 0) (PcW G S [.ref (gR G 142), .int a1, .int a2, .int a3]) (QI G res.1 res.2) 0 0 (Ab G) := by
  refine Met.ofW (cc := cX10_hear) (maxL := 4) (ret := (some .int)) (by decide) rfl ?_
  intro p e s m args below meth c s₁ B hml hv
  obtain ⟨rfl, hK, hP⟩ := hv
  have C : Cx p s m _ meth c cX10_hear 4 RX10 G := ⟨⟨B.exec, B.bytes, hml, findClass_of_methodNamed B.named, fun w hw => atoms_spec (ws := wm yX10_hear cX10_hear 4 (some .int)) B.pre w (List.mem_cons_of_mem _ hw)⟩, B.notSynchronized, hK⟩
  have hl := lv_entry ([.ref (gR G 142), .int a1, .int a2, .int a3]) (n := 4) (Nat.le_of_ble_eq_true rfl)
  rw [lg_entry_eq]
  generalize (lg_sl ([.ref (gR G 142), .int a1, .int a2, .int a3]) ++ List.replicate (4 - (lg_sl ([.ref (gR G 142), .int a1, .int a2, .int a3])).length) Slot.unset).toArray = ls at hl ⊢
  exact sfX10_hear C B.returns  ⟨hP, va_S.rf⟩ hl h
def BX10_hourTold_78 (r37 : Int32 → St → Option St) (l1 : Int32) (S : St) : Option St :=
  vl (l1 + 1) fun x1 => (r37 x1 S)
set_option maxHeartbeats 4000000 in
set_option maxRecDepth 20000 in
theorem sBX10_hourTold_78 (C : Cx p s m args meth c cX10_hourTold 2 RX10 G) (hr : meth.sig.returnType = none) {r37 : Int32 → St → Option St} (hr37 : ∀ (l1 : Int32) (S : St) (res : St) (H : Heap) (locs : List Loc) (ls : Array Slot), Dy G S s H locs → lv_has ls 2 [(0, .ref (gR G 142)), (1, .int l1)] → r37 l1 S = some res → W p l e (rmL 8 0 0) s m args below meth c H locs 0 0 (MQ below (QV G res) args s 0 0 (Ab G)) (F0 m 37 ls [])) {l1 : Int32} {S : St} {res : St} {H : Heap} {locs : List Loc} {ls : Array Slot}  (hd : Dy G S s H locs) (hl : lv_has ls 2 [(0, .ref (gR G 142)), (1, .int l1)]) (h : BX10_hourTold_78 r37 l1 S = some res) : W p l e (rmL 8 0 0) s m args below meth c H locs 0 0 (MQ below (QV G res) args s 0 0 (Ab G)) (F0 m 78 ls []) := by
  unfold BX10_hourTold_78 at h
  have hx := C.1.1
  have hb := C.1.2.1
  refine R_vi h (fun x1 ex1 h => ?_)
  refine lv_iinc (v := x1) (lv' := [(1, .int x1), (0, .ref (gR G 142))]) hx hb dX10_hourTold_78 hl (k := 1) rfl (by rw [ex1]; rfl) (by decide) rfl (fun ls hl => ?_)
  refine lv_goto (tgt := 37) hx hb dX10_hourTold_81 (by decide) ?_
  exact hr37 x1 _ _ _ _ _  hd (lv_sub hl [1, 0] rfl) h
def KX10_hourTold_37 (r37 : Int32 → St → Option St) (l1 : Int32) (S : St) : Option St :=
  rd S 145 2 fun x2 => (if x2 ≤ l1 then pf S 142 34 ((S 142 34) + 1) fun S => some S else rd S 167 l1 fun x5 => (if x5 = (-1) then (BX10_hourTold_78 r37 l1 S) else bd (fX10_placeOf l1 S) fun x8 S => rd S 177 x8 fun x9 => rd S 167 l1 fun x11 => wr S 177 x8 (x9 ||| ((1 : Int32) <<< (x11 &&& 31))) fun S => (BX10_hourTold_78 r37 l1 S)))
set_option maxHeartbeats 4000000 in
set_option maxRecDepth 20000 in
theorem sKX10_hourTold_37 (C : Cx p s m args meth c cX10_hourTold 2 RX10 G) (hr : meth.sig.returnType = none) {r37 : Int32 → St → Option St} (hr37 : ∀ (l1 : Int32) (S : St) (res : St) (H : Heap) (locs : List Loc) (ls : Array Slot), Dy G S s H locs → lv_has ls 2 [(0, .ref (gR G 142)), (1, .int l1)] → r37 l1 S = some res → W p l e (rmL 8 0 0) s m args below meth c H locs 0 0 (MQ below (QV G res) args s 0 0 (Ab G)) (F0 m 37 ls [])) {l1 : Int32} {S : St} {res : St} {H : Heap} {locs : List Loc} {ls : Array Slot}  (hd : Dy G S s H locs) (hl : lv_has ls 2 [(0, .ref (gR G 142)), (1, .int l1)]) (h : KX10_hourTold_37 r37 l1 S = some res) : W p l e (rmL 8 0 0) s m args below meth c H locs 0 0 (MQ below (QV G res) args s 0 0 (Ab G)) (F0 m 37 ls []) := by
  unfold KX10_hourTold_37 at h
  have hx := C.1.1
  have hb := C.1.2.1
  refine lv_iload_n hx hb dX10_hourTold_37 rfl (lv_at hl 1 rfl) ?_
  refine lv_aload_n hx hb dX10_hourTold_38 rfl (lv_at hl 0 rfl) ?_
  refine gX10_39 C hd (rfl : kd 142 = 10) (q := 145) rfl dX10_hourTold_39 (fun y1 => ?_)
  refine lv_iconst (v := 2) hx hb dX10_hourTold_42 (by decide) ?_
  refine R_iald C hd y1 h dX10_hourTold_43 (fun x2 h => ?_)
  refine lv_icmp_ge (tgt := 84) hx hb dX10_hourTold_44 (by decide) (fun c3 => ?_) (fun c3 => ?_)
  · rw [if_pos c3] at h
    refine lv_aload_n hx hb dX10_hourTold_84 rfl (lv_at hl 0 rfl) ?_
    refine lv_dup hx hb dX10_hourTold_85 rfl ?_
    refine gX10_338 C hd (rfl : kd 142 = 10) dX10_hourTold_86 ?_
    refine lv_iconst (v := 1) hx hb dX10_hourTold_89 (by decide) ?_
    refine lv_iadd hx hb dX10_hourTold_90 ?_
    refine pX10_338 C hd (rfl : kd 142 = 10) h dX10_hourTold_91 (fun S H locs hd h => ?_)
    exact R_vret C hr hd h dX10_hourTold_94
  · rw [if_neg c3] at h
    refine lv_aload_n hx hb dX10_hourTold_47 rfl (lv_at hl 0 rfl) ?_
    refine gX10_110 C hd (rfl : kd 142 = 10) (q := 167) rfl dX10_hourTold_48 (fun y4 => ?_)
    refine lv_iload_n hx hb dX10_hourTold_51 rfl (lv_at hl 1 rfl) ?_
    refine R_iald C hd y4 h dX10_hourTold_52 (fun x5 h => ?_)
    refine lv_iconst (v := -1) hx hb dX10_hourTold_53 (by decide) ?_
    refine lv_icmp_eq (tgt := 78) hx hb dX10_hourTold_54 (by decide) (fun c6 => ?_) (fun c6 => ?_)
    · rw [if_pos c6] at h
      exact sBX10_hourTold_78 C hr hr37  hd (lv_sub hl [0, 1] rfl) h
    · rw [if_neg c6] at h
      refine lv_aload_n hx hb dX10_hourTold_57 rfl (lv_at hl 0 rfl) ?_
      refine gX10_140 C hd (rfl : kd 142 = 10) (q := 177) rfl dX10_hourTold_58 (fun y7 => ?_)
      refine lv_aload_n hx hb dX10_hourTold_61 rfl (lv_at hl 0 rfl) ?_
      refine lv_iload_n hx hb dX10_hourTold_62 rfl (lv_at hl 1 rfl) ?_
      obtain ⟨x8, S1, hc, h⟩ := bd_some h
      refine R_cVi C hd (ccX10_placeOf l G  hc) kX10_359 rfl (by decide) (rfl : kd 142 = 10) hl.1 ⟨by decide, by decide⟩ rfl rfl (Nat.le_of_ble_eq_true rfl) dX10_hourTold_63 ⟨Nat.zero_le _, Nat.zero_le _⟩ (fun H locs hd => ?_)
      generalize S1 = S at h hd
      refine lv_dup2_11 hx hb dX10_hourTold_66 rfl rfl ?_
      refine R_iald C hd y7 h dX10_hourTold_67 (fun x9 h => ?_)
      refine lv_iconst (v := 1) hx hb dX10_hourTold_68 (by decide) ?_
      refine lv_aload_n hx hb dX10_hourTold_69 rfl (lv_at hl 0 rfl) ?_
      refine gX10_110 C hd (rfl : kd 142 = 10) (q := 167) rfl dX10_hourTold_70 (fun y10 => ?_)
      refine lv_iload_n hx hb dX10_hourTold_73 rfl (lv_at hl 1 rfl) ?_
      refine R_iald C hd y10 h dX10_hourTold_74 (fun x11 h => ?_)
      refine lv_ishl hx hb dX10_hourTold_75 ?_
      refine lv_ior hx hb dX10_hourTold_76 ?_
      refine R_iast C hd y7 h dX10_hourTold_77 (fun S H locs hd h => ?_)
      exact sBX10_hourTold_78 C hr hr37  hd (lv_sub hl [0, 1] rfl) h
def LX10_hourTold_37 : Nat → Int32 → St → Option St
  | 0 => fun _ _ => none
  | n + 1 => fun l1 S => KX10_hourTold_37 (LX10_hourTold_37 n) l1 S
theorem sLX10_hourTold_37 (C : Cx p s m args meth c cX10_hourTold 2 RX10 G) (hr : meth.sig.returnType = none) : ∀ (n : Nat) (l1 : Int32) (S : St) (res : St) (H : Heap) (locs : List Loc) (ls : Array Slot), Dy G S s H locs → lv_has ls 2 [(0, .ref (gR G 142)), (1, .int l1)] → LX10_hourTold_37 n l1 S = some res → W p l e (rmL 8 0 0) s m args below meth c H locs 0 0 (MQ below (QV G res) args s 0 0 (Ab G)) (F0 m 37 ls []) := by
  intro n
  induction n with
  | zero => intro l1 S res H locs ls  hd hl h; cases h
  | succ n ih =>
    intro l1 S res H locs ls  hd hl h
    exact sKX10_hourTold_37 C hr ih  hd hl h
def KX10_hourTold_2 (r2 : Int32 → St → Option St) (l1 : Int32) (S : St) : Option St :=
  (if 8 ≤ l1 then bv (fX10_anHour  S) fun S => pf S 142 34 ((S 142 34) - 1) fun S => (LX10_hourTold_37 FU 0 S) else wr S 177 l1 0 fun S => vl (l1 + 1) fun x3 => (r2 x3 S))
set_option maxHeartbeats 4000000 in
set_option maxRecDepth 20000 in
theorem sKX10_hourTold_2 (C : Cx p s m args meth c cX10_hourTold 2 RX10 G) (hr : meth.sig.returnType = none) {r2 : Int32 → St → Option St} (hr2 : ∀ (l1 : Int32) (S : St) (res : St) (H : Heap) (locs : List Loc) (ls : Array Slot), Dy G S s H locs → lv_has ls 2 [(0, .ref (gR G 142)), (1, .int l1)] → r2 l1 S = some res → W p l e (rmL 8 0 0) s m args below meth c H locs 0 0 (MQ below (QV G res) args s 0 0 (Ab G)) (F0 m 2 ls [])) {l1 : Int32} {S : St} {res : St} {H : Heap} {locs : List Loc} {ls : Array Slot}  (hd : Dy G S s H locs) (hl : lv_has ls 2 [(0, .ref (gR G 142)), (1, .int l1)]) (h : KX10_hourTold_2 r2 l1 S = some res) : W p l e (rmL 8 0 0) s m args below meth c H locs 0 0 (MQ below (QV G res) args s 0 0 (Ab G)) (F0 m 2 ls []) := by
  unfold KX10_hourTold_2 at h
  have hx := C.1.1
  have hb := C.1.2.1
  refine lv_iload_n hx hb dX10_hourTold_2 rfl (lv_at hl 1 rfl) ?_
  refine lv_bipush (v := 8) hx hb dX10_hourTold_3 (by decide) ?_
  refine lv_icmp_ge (tgt := 21) hx hb dX10_hourTold_5 (by decide) (fun c1 => ?_) (fun c1 => ?_)
  · rw [if_pos c1] at h
    refine lv_aload_n hx hb dX10_hourTold_21 rfl (lv_at hl 0 rfl) ?_
    obtain ⟨S1, hc, h⟩ := bv_some h
    refine R_cVv C hd (ccX10_anHour l G  hc) kX10_389 rfl (by decide) (rfl : kd 142 = 10) hl.1 ⟨by decide, by decide⟩ rfl rfl (Nat.le_of_ble_eq_true rfl) dX10_hourTold_22 ⟨Nat.zero_le _, Nat.zero_le _⟩ (fun H locs hd => ?_)
    generalize S1 = S at h hd
    refine lv_aload_n hx hb dX10_hourTold_25 rfl (lv_at hl 0 rfl) ?_
    refine lv_dup hx hb dX10_hourTold_26 rfl ?_
    refine gX10_338 C hd (rfl : kd 142 = 10) dX10_hourTold_27 ?_
    refine lv_iconst (v := 1) hx hb dX10_hourTold_30 (by decide) ?_
    refine lv_isub hx hb dX10_hourTold_31 ?_
    refine pX10_338 C hd (rfl : kd 142 = 10) h dX10_hourTold_32 (fun S H locs hd h => ?_)
    refine lv_iconst (v := 0) hx hb dX10_hourTold_35 (by decide) ?_
    refine lv_istore_n (lv' := [(1, .int 0), (0, .ref (gR G 142))]) hx hb dX10_hourTold_36 rfl hl (by decide) rfl (fun ls hl => ?_)
    exact sLX10_hourTold_37 C hr _ 0 _ _ _ _ _  hd (lv_sub hl [1, 0] rfl) h
  · rw [if_neg c1] at h
    refine lv_aload_n hx hb dX10_hourTold_8 rfl (lv_at hl 0 rfl) ?_
    refine gX10_140 C hd (rfl : kd 142 = 10) (q := 177) rfl dX10_hourTold_9 (fun y2 => ?_)
    refine lv_iload_n hx hb dX10_hourTold_12 rfl (lv_at hl 1 rfl) ?_
    refine lv_iconst (v := 0) hx hb dX10_hourTold_13 (by decide) ?_
    refine R_iast C hd y2 h dX10_hourTold_14 (fun S H locs hd h => ?_)
    refine R_vi h (fun x3 ex3 h => ?_)
    refine lv_iinc (v := x3) (lv' := [(1, .int x3), (0, .ref (gR G 142))]) hx hb dX10_hourTold_15 hl (k := 1) rfl (by rw [ex3]; rfl) (by decide) rfl (fun ls hl => ?_)
    refine lv_goto (tgt := 2) hx hb dX10_hourTold_18 (by decide) ?_
    exact hr2 x3 _ _ _ _ _  hd (lv_sub hl [1, 0] rfl) h
def LX10_hourTold_2 : Nat → Int32 → St → Option St
  | 0 => fun _ _ => none
  | n + 1 => fun l1 S => KX10_hourTold_2 (LX10_hourTold_2 n) l1 S
theorem sLX10_hourTold_2 (C : Cx p s m args meth c cX10_hourTold 2 RX10 G) (hr : meth.sig.returnType = none) : ∀ (n : Nat) (l1 : Int32) (S : St) (res : St) (H : Heap) (locs : List Loc) (ls : Array Slot), Dy G S s H locs → lv_has ls 2 [(0, .ref (gR G 142)), (1, .int l1)] → LX10_hourTold_2 n l1 S = some res → W p l e (rmL 8 0 0) s m args below meth c H locs 0 0 (MQ below (QV G res) args s 0 0 (Ab G)) (F0 m 2 ls []) := by
  intro n
  induction n with
  | zero => intro l1 S res H locs ls  hd hl h; cases h
  | succ n ih =>
    intro l1 S res H locs ls  hd hl h
    exact sKX10_hourTold_2 C hr ih  hd hl h
def fX10_hourTold  (S : St) : Option St :=
  (LX10_hourTold_2 FU 0 S)
set_option maxHeartbeats 4000000 in
set_option maxRecDepth 20000 in
theorem sfX10_hourTold (C : Cx p s m args meth c cX10_hourTold 2 RX10 G) (hr : meth.sig.returnType = none)  {S : St} {res : St} {H : Heap} {locs : List Loc} {ls : Array Slot}  (hd : Dy G S s H locs) (hl : lv_has ls 2 [(0, .ref (gR G 142))]) (h : fX10_hourTold  S = some res) : W p l e (rmL 8 0 0) s m args below meth c H locs 0 0 (MQ below (QV G res) args s 0 0 (Ab G)) (F0 m 0 ls []) := by
  unfold fX10_hourTold at h
  have hx := C.1.1
  have hb := C.1.2.1
  refine lv_iconst (v := 0) hx hb dX10_hourTold_0 (by decide) ?_
  refine lv_istore_n (lv' := [(1, .int 0), (0, .ref (gR G 142))]) hx hb dX10_hourTold_1 rfl hl (by decide) rfl (fun ls hl => ?_)
  exact sLX10_hourTold_2 C hr _ 0 _ _ _ _ _  hd (lv_sub hl [1, 0] rfl) h
set_option maxRecDepth 20000 in
theorem ccX10_hourTold (l : Launch) (G : Gt)  {S : St} {res : St}  (h : fX10_hourTold  S = some res) : Met l yX10_hourTold (wm yX10_hourTold cX10_hourTold 2 (none)) (rmL 8 0 0) (PcW G S [.ref (gR G 142)]) (QV G res) 0 0 (Ab G) := by
  refine Met.ofW (cc := cX10_hourTold) (maxL := 2) (ret := none) (by decide) rfl ?_
  intro p e s m args below meth c s₁ B hml hv
  obtain ⟨rfl, hK, hP⟩ := hv
  have C : Cx p s m _ meth c cX10_hourTold 2 RX10 G := ⟨⟨B.exec, B.bytes, hml, findClass_of_methodNamed B.named, fun w hw => atoms_spec (ws := wm yX10_hourTold cX10_hourTold 2 (none)) B.pre w (List.mem_cons_of_mem _ hw)⟩, B.notSynchronized, hK⟩
  have hl := lv_entry ([.ref (gR G 142)]) (n := 2) (Nat.le_of_ble_eq_true rfl)
  rw [lg_entry_eq]
  generalize (lg_sl ([.ref (gR G 142)]) ++ List.replicate (2 - (lg_sl ([.ref (gR G 142)])).length) Slot.unset).toArray = ls at hl ⊢
  exact sfX10_hourTold C B.returns  ⟨hP, va_S.rf⟩ hl h
def BX10_isAsHeard_117 (l1 : Int32) (S : St) : Option (Int32 × St) :=
  bv (fX10_unpack 176 0 S) fun S => rz l1 S
set_option maxHeartbeats 4000000 in
set_option maxRecDepth 20000 in
theorem sBX10_isAsHeard_117 (C : Cx p s m args meth c cX10_isAsHeard 5 RX10 G) (hr : meth.sig.returnType = some .boolean) {l1 : Int32} {S : St} {res : (Int32 × St)} {H : Heap} {locs : List Loc} {ls : Array Slot}  (hd : Dy G S s H locs) (hl : lv_has ls 5 [(0, .ref (gR G 142)), (1, .int l1)]) (h : BX10_isAsHeard_117 l1 S = some res) : W p l e (rmL 9 0 0) s m args below meth c H locs 0 0 (MQ below (QI G res.1 res.2) args s 0 0 (Ab G)) (F0 m 117 ls []) := by
  unfold BX10_isAsHeard_117 at h
  have hx := C.1.1
  have hb := C.1.2.1
  refine lv_aload_n hx hb dX10_isAsHeard_117 rfl (lv_at hl 0 rfl) ?_
  refine lv_aload_n hx hb dX10_isAsHeard_118 rfl (lv_at hl 0 rfl) ?_
  refine gX10_137 C hd (rfl : kd 142 = 10) (q := 176) rfl dX10_isAsHeard_119 (fun y1 => ?_)
  refine lv_iconst (v := 0) hx hb dX10_isAsHeard_122 (by decide) ?_
  obtain ⟨S1, hc, h⟩ := bv_some h
  refine R_cVv C hd (ccX10_unpack l G y1 hc) kX10_430 rfl (by decide) (rfl : kd 142 = 10) hl.1 ⟨by decide, by decide⟩ rfl rfl (Nat.le_of_ble_eq_true rfl) dX10_isAsHeard_123 ⟨Nat.zero_le _, Nat.zero_le _⟩ (fun H locs hd => ?_)
  generalize S1 = S at h hd
  refine lv_iload_n hx hb dX10_isAsHeard_126 rfl (lv_at hl 1 rfl) ?_
  exact R_zret C hr hd h dX10_isAsHeard_127
def BX10_isAsHeard_105 (r13 : Int32 → Int32 → St → Option (Int32 × St)) (r29 : Int32 → Int32 → Int32 → St → Option (Int32 × St)) (l1 : Int32) (l2 : Int32) (l3 : Int32) (S : St) : Option (Int32 × St) :=
  vl (l3 + 1) fun x1 => (r29 l1 l2 x1 S)
set_option maxHeartbeats 4000000 in
set_option maxRecDepth 20000 in
theorem sBX10_isAsHeard_105 (C : Cx p s m args meth c cX10_isAsHeard 5 RX10 G) (hr : meth.sig.returnType = some .boolean) {r13 : Int32 → Int32 → St → Option (Int32 × St)} {r29 : Int32 → Int32 → Int32 → St → Option (Int32 × St)} (hr13 : ∀ (l1 : Int32) (l2 : Int32) (S : St) (res : (Int32 × St)) (H : Heap) (locs : List Loc) (ls : Array Slot), Dy G S s H locs → lv_has ls 5 [(0, .ref (gR G 142)), (1, .int l1), (2, .int l2)] → r13 l1 l2 S = some res → W p l e (rmL 9 0 0) s m args below meth c H locs 0 0 (MQ below (QI G res.1 res.2) args s 0 0 (Ab G)) (F0 m 13 ls [])) (hr29 : ∀ (l1 : Int32) (l2 : Int32) (l3 : Int32) (S : St) (res : (Int32 × St)) (H : Heap) (locs : List Loc) (ls : Array Slot), Dy G S s H locs → lv_has ls 5 [(0, .ref (gR G 142)), (1, .int l1), (2, .int l2), (3, .int l3)] → r29 l1 l2 l3 S = some res → W p l e (rmL 9 0 0) s m args below meth c H locs 0 0 (MQ below (QI G res.1 res.2) args s 0 0 (Ab G)) (F0 m 29 ls [])) {l1 : Int32} {l2 : Int32} {l3 : Int32} {S : St} {res : (Int32 × St)} {H : Heap} {locs : List Loc} {ls : Array Slot}  (hd : Dy G S s H locs) (hl : lv_has ls 5 [(0, .ref (gR G 142)), (1, .int l1), (2, .int l2), (3, .int l3)]) (h : BX10_isAsHeard_105 r13 r29 l1 l2 l3 S = some res) : W p l e (rmL 9 0 0) s m args below meth c H locs 0 0 (MQ below (QI G res.1 res.2) args s 0 0 (Ab G)) (F0 m 105 ls []) := by
  unfold BX10_isAsHeard_105 at h
  have hx := C.1.1
  have hb := C.1.2.1
  refine R_vi h (fun x1 ex1 h => ?_)
  refine lv_iinc (v := x1) (lv' := [(3, .int x1), (0, .ref (gR G 142)), (1, .int l1), (2, .int l2)]) hx hb dX10_isAsHeard_105 hl (k := 3) rfl (by rw [ex1]; rfl) (by decide) rfl (fun ls hl => ?_)
  refine lv_goto (tgt := 29) hx hb dX10_isAsHeard_108 (by decide) ?_
  exact hr29 l1 l2 x1 _ _ _ _ _  hd (lv_sub hl [1, 2, 3, 0] rfl) h
def BX10_isAsHeard_104 (r13 : Int32 → Int32 → St → Option (Int32 × St)) (r29 : Int32 → Int32 → Int32 → St → Option (Int32 × St)) (l2 : Int32) (l3 : Int32) (s0 : Int32) (S : St) : Option (Int32 × St) :=
  (BX10_isAsHeard_105 r13 r29 s0 l2 l3 S)
set_option maxHeartbeats 4000000 in
set_option maxRecDepth 20000 in
theorem sBX10_isAsHeard_104 (C : Cx p s m args meth c cX10_isAsHeard 5 RX10 G) (hr : meth.sig.returnType = some .boolean) {r13 : Int32 → Int32 → St → Option (Int32 × St)} {r29 : Int32 → Int32 → Int32 → St → Option (Int32 × St)} (hr13 : ∀ (l1 : Int32) (l2 : Int32) (S : St) (res : (Int32 × St)) (H : Heap) (locs : List Loc) (ls : Array Slot), Dy G S s H locs → lv_has ls 5 [(0, .ref (gR G 142)), (1, .int l1), (2, .int l2)] → r13 l1 l2 S = some res → W p l e (rmL 9 0 0) s m args below meth c H locs 0 0 (MQ below (QI G res.1 res.2) args s 0 0 (Ab G)) (F0 m 13 ls [])) (hr29 : ∀ (l1 : Int32) (l2 : Int32) (l3 : Int32) (S : St) (res : (Int32 × St)) (H : Heap) (locs : List Loc) (ls : Array Slot), Dy G S s H locs → lv_has ls 5 [(0, .ref (gR G 142)), (1, .int l1), (2, .int l2), (3, .int l3)] → r29 l1 l2 l3 S = some res → W p l e (rmL 9 0 0) s m args below meth c H locs 0 0 (MQ below (QI G res.1 res.2) args s 0 0 (Ab G)) (F0 m 29 ls [])) {l2 : Int32} {l3 : Int32} {s0 : Int32} {S : St} {res : (Int32 × St)} {H : Heap} {locs : List Loc} {ls : Array Slot}  (hd : Dy G S s H locs) (hl : lv_has ls 5 [(0, .ref (gR G 142)), (2, .int l2), (3, .int l3)]) (h : BX10_isAsHeard_104 r13 r29 l2 l3 s0 S = some res) : W p l e (rmL 9 0 0) s m args below meth c H locs 0 0 (MQ below (QI G res.1 res.2) args s 0 0 (Ab G)) (F0 m 104 ls [.int s0]) := by
  unfold BX10_isAsHeard_104 at h
  have hx := C.1.1
  have hb := C.1.2.1
  refine lv_istore_n (lv' := [(1, .int s0), (0, .ref (gR G 142)), (2, .int l2), (3, .int l3)]) hx hb dX10_isAsHeard_104 rfl hl (by decide) rfl (fun ls hl => ?_)
  exact sBX10_isAsHeard_105 C hr hr13 hr29  hd (lv_sub hl [1, 0, 2, 3] rfl) h
def BX10_isAsHeard_103 (r13 : Int32 → Int32 → St → Option (Int32 × St)) (r29 : Int32 → Int32 → Int32 → St → Option (Int32 × St)) (l2 : Int32) (l3 : Int32) (S : St) : Option (Int32 × St) :=
  (BX10_isAsHeard_104 r13 r29 l2 l3 0 S)
set_option maxHeartbeats 4000000 in
set_option maxRecDepth 20000 in
theorem sBX10_isAsHeard_103 (C : Cx p s m args meth c cX10_isAsHeard 5 RX10 G) (hr : meth.sig.returnType = some .boolean) {r13 : Int32 → Int32 → St → Option (Int32 × St)} {r29 : Int32 → Int32 → Int32 → St → Option (Int32 × St)} (hr13 : ∀ (l1 : Int32) (l2 : Int32) (S : St) (res : (Int32 × St)) (H : Heap) (locs : List Loc) (ls : Array Slot), Dy G S s H locs → lv_has ls 5 [(0, .ref (gR G 142)), (1, .int l1), (2, .int l2)] → r13 l1 l2 S = some res → W p l e (rmL 9 0 0) s m args below meth c H locs 0 0 (MQ below (QI G res.1 res.2) args s 0 0 (Ab G)) (F0 m 13 ls [])) (hr29 : ∀ (l1 : Int32) (l2 : Int32) (l3 : Int32) (S : St) (res : (Int32 × St)) (H : Heap) (locs : List Loc) (ls : Array Slot), Dy G S s H locs → lv_has ls 5 [(0, .ref (gR G 142)), (1, .int l1), (2, .int l2), (3, .int l3)] → r29 l1 l2 l3 S = some res → W p l e (rmL 9 0 0) s m args below meth c H locs 0 0 (MQ below (QI G res.1 res.2) args s 0 0 (Ab G)) (F0 m 29 ls [])) {l2 : Int32} {l3 : Int32} {S : St} {res : (Int32 × St)} {H : Heap} {locs : List Loc} {ls : Array Slot}  (hd : Dy G S s H locs) (hl : lv_has ls 5 [(0, .ref (gR G 142)), (2, .int l2), (3, .int l3)]) (h : BX10_isAsHeard_103 r13 r29 l2 l3 S = some res) : W p l e (rmL 9 0 0) s m args below meth c H locs 0 0 (MQ below (QI G res.1 res.2) args s 0 0 (Ab G)) (F0 m 103 ls []) := by
  unfold BX10_isAsHeard_103 at h
  have hx := C.1.1
  have hb := C.1.2.1
  refine lv_iconst (v := 0) hx hb dX10_isAsHeard_103 (by decide) ?_
  exact sBX10_isAsHeard_104 C hr hr13 hr29  hd (lv_sub hl [0, 1, 2] rfl) h
def BX10_isAsHeard_99 (r13 : Int32 → Int32 → St → Option (Int32 × St)) (r29 : Int32 → Int32 → Int32 → St → Option (Int32 × St)) (l2 : Int32) (l3 : Int32) (S : St) : Option (Int32 × St) :=
  (BX10_isAsHeard_104 r13 r29 l2 l3 1 S)
set_option maxHeartbeats 4000000 in
set_option maxRecDepth 20000 in
theorem sBX10_isAsHeard_99 (C : Cx p s m args meth c cX10_isAsHeard 5 RX10 G) (hr : meth.sig.returnType = some .boolean) {r13 : Int32 → Int32 → St → Option (Int32 × St)} {r29 : Int32 → Int32 → Int32 → St → Option (Int32 × St)} (hr13 : ∀ (l1 : Int32) (l2 : Int32) (S : St) (res : (Int32 × St)) (H : Heap) (locs : List Loc) (ls : Array Slot), Dy G S s H locs → lv_has ls 5 [(0, .ref (gR G 142)), (1, .int l1), (2, .int l2)] → r13 l1 l2 S = some res → W p l e (rmL 9 0 0) s m args below meth c H locs 0 0 (MQ below (QI G res.1 res.2) args s 0 0 (Ab G)) (F0 m 13 ls [])) (hr29 : ∀ (l1 : Int32) (l2 : Int32) (l3 : Int32) (S : St) (res : (Int32 × St)) (H : Heap) (locs : List Loc) (ls : Array Slot), Dy G S s H locs → lv_has ls 5 [(0, .ref (gR G 142)), (1, .int l1), (2, .int l2), (3, .int l3)] → r29 l1 l2 l3 S = some res → W p l e (rmL 9 0 0) s m args below meth c H locs 0 0 (MQ below (QI G res.1 res.2) args s 0 0 (Ab G)) (F0 m 29 ls [])) {l2 : Int32} {l3 : Int32} {S : St} {res : (Int32 × St)} {H : Heap} {locs : List Loc} {ls : Array Slot}  (hd : Dy G S s H locs) (hl : lv_has ls 5 [(0, .ref (gR G 142)), (2, .int l2), (3, .int l3)]) (h : BX10_isAsHeard_99 r13 r29 l2 l3 S = some res) : W p l e (rmL 9 0 0) s m args below meth c H locs 0 0 (MQ below (QI G res.1 res.2) args s 0 0 (Ab G)) (F0 m 99 ls []) := by
  unfold BX10_isAsHeard_99 at h
  have hx := C.1.1
  have hb := C.1.2.1
  refine lv_iconst (v := 1) hx hb dX10_isAsHeard_99 (by decide) ?_
  refine lv_goto (tgt := 104) hx hb dX10_isAsHeard_100 (by decide) ?_
  exact sBX10_isAsHeard_104 C hr hr13 hr29  hd (lv_sub hl [0, 1, 2] rfl) h
def KX10_isAsHeard_29 (r13 : Int32 → Int32 → St → Option (Int32 × St)) (r29 : Int32 → Int32 → Int32 → St → Option (Int32 × St)) (l1 : Int32) (l2 : Int32) (l3 : Int32) (S : St) : Option (Int32 × St) :=
  (if (S 142 37) ≤ l3 then vl (l2 + 1) fun x2 => (r13 l1 x2 S) else rd S 174 l3 fun x4 => (if x4 = l2 then rd S 173 l3 fun x8 => rd S 177 x8 fun x9 => (if l1 = 0 then (BX10_isAsHeard_103 r13 r29 l2 l3 S) else rd S 175 l3 fun x12 => (if x12 = (-1) then (if x9 = 0 then (BX10_isAsHeard_99 r13 r29 l2 l3 S) else (BX10_isAsHeard_103 r13 r29 l2 l3 S)) else rd S 175 l3 fun x15 => bd (fX10_isOf x9 x15 S) fun x16 S => (if x16 = 0 then (BX10_isAsHeard_103 r13 r29 l2 l3 S) else (BX10_isAsHeard_99 r13 r29 l2 l3 S)))) else (BX10_isAsHeard_105 r13 r29 l1 l2 l3 S)))
set_option maxHeartbeats 4000000 in
set_option maxRecDepth 20000 in
theorem sKX10_isAsHeard_29 (C : Cx p s m args meth c cX10_isAsHeard 5 RX10 G) (hr : meth.sig.returnType = some .boolean) {r13 : Int32 → Int32 → St → Option (Int32 × St)} {r29 : Int32 → Int32 → Int32 → St → Option (Int32 × St)} (hr13 : ∀ (l1 : Int32) (l2 : Int32) (S : St) (res : (Int32 × St)) (H : Heap) (locs : List Loc) (ls : Array Slot), Dy G S s H locs → lv_has ls 5 [(0, .ref (gR G 142)), (1, .int l1), (2, .int l2)] → r13 l1 l2 S = some res → W p l e (rmL 9 0 0) s m args below meth c H locs 0 0 (MQ below (QI G res.1 res.2) args s 0 0 (Ab G)) (F0 m 13 ls [])) (hr29 : ∀ (l1 : Int32) (l2 : Int32) (l3 : Int32) (S : St) (res : (Int32 × St)) (H : Heap) (locs : List Loc) (ls : Array Slot), Dy G S s H locs → lv_has ls 5 [(0, .ref (gR G 142)), (1, .int l1), (2, .int l2), (3, .int l3)] → r29 l1 l2 l3 S = some res → W p l e (rmL 9 0 0) s m args below meth c H locs 0 0 (MQ below (QI G res.1 res.2) args s 0 0 (Ab G)) (F0 m 29 ls [])) {l1 : Int32} {l2 : Int32} {l3 : Int32} {S : St} {res : (Int32 × St)} {H : Heap} {locs : List Loc} {ls : Array Slot}  (hd : Dy G S s H locs) (hl : lv_has ls 5 [(0, .ref (gR G 142)), (1, .int l1), (2, .int l2), (3, .int l3)]) (h : KX10_isAsHeard_29 r13 r29 l1 l2 l3 S = some res) : W p l e (rmL 9 0 0) s m args below meth c H locs 0 0 (MQ below (QI G res.1 res.2) args s 0 0 (Ab G)) (F0 m 29 ls []) := by
  unfold KX10_isAsHeard_29 at h
  have hx := C.1.1
  have hb := C.1.2.1
  refine lv_iload_n hx hb dX10_isAsHeard_29 rfl (lv_at hl 3 rfl) ?_
  refine lv_aload_n hx hb dX10_isAsHeard_30 rfl (lv_at hl 0 rfl) ?_
  refine gX10_349 C hd (rfl : kd 142 = 10) dX10_isAsHeard_31 ?_
  refine lv_icmp_ge (tgt := 111) hx hb dX10_isAsHeard_34 (by decide) (fun c1 => ?_) (fun c1 => ?_)
  · rw [if_pos c1] at h
    refine R_vi h (fun x2 ex2 h => ?_)
    refine lv_iinc (v := x2) (lv' := [(2, .int x2), (0, .ref (gR G 142)), (1, .int l1), (3, .int l3)]) hx hb dX10_isAsHeard_111 hl (k := 2) rfl (by rw [ex2]; rfl) (by decide) rfl (fun ls hl => ?_)
    refine lv_goto (tgt := 13) hx hb dX10_isAsHeard_114 (by decide) ?_
    exact hr13 l1 x2 _ _ _ _ _  hd (lv_sub hl [1, 2, 0] rfl) h
  · rw [if_neg c1] at h
    refine lv_aload_n hx hb dX10_isAsHeard_37 rfl (lv_at hl 0 rfl) ?_
    refine gX10_131 C hd (rfl : kd 142 = 10) (q := 174) rfl dX10_isAsHeard_38 (fun y3 => ?_)
    refine lv_iload_n hx hb dX10_isAsHeard_41 rfl (lv_at hl 3 rfl) ?_
    refine R_iald C hd y3 h dX10_isAsHeard_42 (fun x4 h => ?_)
    refine lv_iload_n hx hb dX10_isAsHeard_43 rfl (lv_at hl 2 rfl) ?_
    refine lv_icmp_eq (tgt := 50) hx hb dX10_isAsHeard_44 (by decide) (fun c5 => ?_) (fun c5 => ?_)
    · rw [if_pos c5] at h
      refine lv_aload_n hx hb dX10_isAsHeard_50 rfl (lv_at hl 0 rfl) ?_
      refine gX10_140 C hd (rfl : kd 142 = 10) (q := 177) rfl dX10_isAsHeard_51 (fun y6 => ?_)
      refine lv_aload_n hx hb dX10_isAsHeard_54 rfl (lv_at hl 0 rfl) ?_
      refine gX10_128 C hd (rfl : kd 142 = 10) (q := 173) rfl dX10_isAsHeard_55 (fun y7 => ?_)
      refine lv_iload_n hx hb dX10_isAsHeard_58 rfl (lv_at hl 3 rfl) ?_
      refine R_iald C hd y7 h dX10_isAsHeard_59 (fun x8 h => ?_)
      refine R_iald C hd y6 h dX10_isAsHeard_60 (fun x9 h => ?_)
      refine lv_istore (lv' := [(4, .int x9), (0, .ref (gR G 142)), (1, .int l1), (2, .int l2), (3, .int l3)]) hx hb dX10_isAsHeard_61 hl (by decide) rfl (fun ls hl => ?_)
      refine lv_iload_n hx hb dX10_isAsHeard_63 rfl (lv_at hl 2 rfl) ?_
      refine lv_if_eq (tgt := 103) hx hb dX10_isAsHeard_64 (by decide) (fun c10 => ?_) (fun c10 => ?_)
      · rw [if_pos c10] at h
        exact sBX10_isAsHeard_103 C hr hr13 hr29  hd (lv_sub hl [1, 3, 4] rfl) h
      · rw [if_neg c10] at h
        refine lv_aload_n hx hb dX10_isAsHeard_67 rfl (lv_at hl 1 rfl) ?_
        refine gX10_134 C hd (rfl : kd 142 = 10) (q := 175) rfl dX10_isAsHeard_68 (fun y11 => ?_)
        refine lv_iload_n hx hb dX10_isAsHeard_71 rfl (lv_at hl 4 rfl) ?_
        refine R_iald C hd y11 h dX10_isAsHeard_72 (fun x12 h => ?_)
        refine lv_iconst (v := -1) hx hb dX10_isAsHeard_73 (by decide) ?_
        refine lv_icmp_ne (tgt := 85) hx hb dX10_isAsHeard_74 (by decide) (fun c13 => ?_) (fun c13 => ?_)
        · rw [if_neg c13] at h
          refine lv_iload hx hb dX10_isAsHeard_85 (lv_at hl 0 rfl) ?_
          refine lv_aload_n hx hb dX10_isAsHeard_87 rfl (lv_at hl 1 rfl) ?_
          refine gX10_134 C hd (rfl : kd 142 = 10) (q := 175) rfl dX10_isAsHeard_88 (fun y14 => ?_)
          refine lv_iload_n hx hb dX10_isAsHeard_91 rfl (lv_at hl 4 rfl) ?_
          refine R_iald C hd y14 h dX10_isAsHeard_92 (fun x15 h => ?_)
          obtain ⟨x16, S1, hc, h⟩ := bd_some h
          refine R_cSi C hd (ccX10_isOf l G  hc) kX10_298  hl.1 ⟨by decide, by decide⟩ rfl rfl (Nat.le_of_ble_eq_true rfl) dX10_isAsHeard_93 ⟨Nat.zero_le _, Nat.zero_le _⟩ (fun H locs hd => ?_)
          generalize S1 = S at h hd
          refine lv_if_eq (tgt := 103) hx hb dX10_isAsHeard_96 (by decide) (fun c17 => ?_) (fun c17 => ?_)
          · rw [if_pos c17] at h
            exact sBX10_isAsHeard_103 C hr hr13 hr29  hd (lv_sub hl [1, 3, 4] rfl) h
          · rw [if_neg c17] at h
            exact sBX10_isAsHeard_99 C hr hr13 hr29  hd (lv_sub hl [1, 3, 4] rfl) h
        · rw [if_pos c13] at h
          refine lv_iload hx hb dX10_isAsHeard_77 (lv_at hl 0 rfl) ?_
          refine lv_if_ne (tgt := 103) hx hb dX10_isAsHeard_79 (by decide) (fun c18 => ?_) (fun c18 => ?_)
          · rw [if_neg c18] at h
            exact sBX10_isAsHeard_103 C hr hr13 hr29  hd (lv_sub hl [1, 3, 4] rfl) h
          · rw [if_pos c18] at h
            refine lv_goto (tgt := 99) hx hb dX10_isAsHeard_82 (by decide) ?_
            exact sBX10_isAsHeard_99 C hr hr13 hr29  hd (lv_sub hl [1, 3, 4] rfl) h
    · rw [if_neg c5] at h
      refine lv_goto (tgt := 105) hx hb dX10_isAsHeard_47 (by decide) ?_
      exact sBX10_isAsHeard_105 C hr hr13 hr29  hd (lv_sub hl [0, 1, 2, 3] rfl) h
def LX10_isAsHeard_29 (r13 : Int32 → Int32 → St → Option (Int32 × St)) : Nat → Int32 → Int32 → Int32 → St → Option (Int32 × St)
  | 0 => fun _ _ _ _ => none
  | n + 1 => fun l1 l2 l3 S => KX10_isAsHeard_29 r13 (LX10_isAsHeard_29 r13 n) l1 l2 l3 S
theorem sLX10_isAsHeard_29 (C : Cx p s m args meth c cX10_isAsHeard 5 RX10 G) (hr : meth.sig.returnType = some .boolean) {r13 : Int32 → Int32 → St → Option (Int32 × St)} (hr13 : ∀ (l1 : Int32) (l2 : Int32) (S : St) (res : (Int32 × St)) (H : Heap) (locs : List Loc) (ls : Array Slot), Dy G S s H locs → lv_has ls 5 [(0, .ref (gR G 142)), (1, .int l1), (2, .int l2)] → r13 l1 l2 S = some res → W p l e (rmL 9 0 0) s m args below meth c H locs 0 0 (MQ below (QI G res.1 res.2) args s 0 0 (Ab G)) (F0 m 13 ls [])) : ∀ (n : Nat) (l1 : Int32) (l2 : Int32) (l3 : Int32) (S : St) (res : (Int32 × St)) (H : Heap) (locs : List Loc) (ls : Array Slot), Dy G S s H locs → lv_has ls 5 [(0, .ref (gR G 142)), (1, .int l1), (2, .int l2), (3, .int l3)] → LX10_isAsHeard_29 r13 n l1 l2 l3 S = some res → W p l e (rmL 9 0 0) s m args below meth c H locs 0 0 (MQ below (QI G res.1 res.2) args s 0 0 (Ab G)) (F0 m 29 ls []) := by
  intro n
  induction n with
  | zero => intro l1 l2 l3 S res H locs ls  hd hl h; cases h
  | succ n ih =>
    intro l1 l2 l3 S res H locs ls  hd hl h
    exact sKX10_isAsHeard_29 C hr hr13 ih  hd hl h
def KX10_isAsHeard_13 (r13 : Int32 → Int32 → St → Option (Int32 × St)) (l1 : Int32) (l2 : Int32) (S : St) : Option (Int32 × St) :=
  (if 30 < l2 then (BX10_isAsHeard_117 l1 S) else (if l1 = 0 then (BX10_isAsHeard_117 l1 S) else bv (fX10_hourTold  S) fun S => (LX10_isAsHeard_29 r13 FU l1 l2 0 S)))
set_option maxHeartbeats 4000000 in
set_option maxRecDepth 20000 in
theorem sKX10_isAsHeard_13 (C : Cx p s m args meth c cX10_isAsHeard 5 RX10 G) (hr : meth.sig.returnType = some .boolean) {r13 : Int32 → Int32 → St → Option (Int32 × St)} (hr13 : ∀ (l1 : Int32) (l2 : Int32) (S : St) (res : (Int32 × St)) (H : Heap) (locs : List Loc) (ls : Array Slot), Dy G S s H locs → lv_has ls 5 [(0, .ref (gR G 142)), (1, .int l1), (2, .int l2)] → r13 l1 l2 S = some res → W p l e (rmL 9 0 0) s m args below meth c H locs 0 0 (MQ below (QI G res.1 res.2) args s 0 0 (Ab G)) (F0 m 13 ls [])) {l1 : Int32} {l2 : Int32} {S : St} {res : (Int32 × St)} {H : Heap} {locs : List Loc} {ls : Array Slot}  (hd : Dy G S s H locs) (hl : lv_has ls 5 [(0, .ref (gR G 142)), (1, .int l1), (2, .int l2)]) (h : KX10_isAsHeard_13 r13 l1 l2 S = some res) : W p l e (rmL 9 0 0) s m args below meth c H locs 0 0 (MQ below (QI G res.1 res.2) args s 0 0 (Ab G)) (F0 m 13 ls []) := by
  unfold KX10_isAsHeard_13 at h
  have hx := C.1.1
  have hb := C.1.2.1
  refine lv_iload_n hx hb dX10_isAsHeard_13 rfl (lv_at hl 2 rfl) ?_
  refine lv_bipush (v := 30) hx hb dX10_isAsHeard_14 (by decide) ?_
  refine lv_icmp_gt (tgt := 117) hx hb dX10_isAsHeard_16 (by decide) (fun c1 => ?_) (fun c1 => ?_)
  · rw [if_pos c1] at h
    exact sBX10_isAsHeard_117 C hr  hd (lv_sub hl [0, 1] rfl) h
  · rw [if_neg c1] at h
    refine lv_iload_n hx hb dX10_isAsHeard_19 rfl (lv_at hl 1 rfl) ?_
    refine lv_if_eq (tgt := 117) hx hb dX10_isAsHeard_20 (by decide) (fun c2 => ?_) (fun c2 => ?_)
    · rw [if_pos c2] at h
      exact sBX10_isAsHeard_117 C hr  hd (lv_sub hl [0, 1] rfl) h
    · rw [if_neg c2] at h
      refine lv_aload_n hx hb dX10_isAsHeard_23 rfl (lv_at hl 0 rfl) ?_
      obtain ⟨S1, hc, h⟩ := bv_some h
      refine R_cVv C hd (ccX10_hourTold l G  hc) kX10_449 rfl (by decide) (rfl : kd 142 = 10) hl.1 ⟨by decide, by decide⟩ rfl rfl (Nat.le_of_ble_eq_true rfl) dX10_isAsHeard_24 ⟨Nat.zero_le _, Nat.zero_le _⟩ (fun H locs hd => ?_)
      generalize S1 = S at h hd
      refine lv_iconst (v := 0) hx hb dX10_isAsHeard_27 (by decide) ?_
      refine lv_istore_n (lv' := [(3, .int 0), (0, .ref (gR G 142)), (1, .int l1), (2, .int l2)]) hx hb dX10_isAsHeard_28 rfl hl (by decide) rfl (fun ls hl => ?_)
      exact sLX10_isAsHeard_29 C hr hr13 _ l1 l2 0 _ _ _ _ _  hd (lv_sub hl [1, 2, 3, 0] rfl) h
def LX10_isAsHeard_13 : Nat → Int32 → Int32 → St → Option (Int32 × St)
  | 0 => fun _ _ _ => none
  | n + 1 => fun l1 l2 S => KX10_isAsHeard_13 (LX10_isAsHeard_13 n) l1 l2 S
theorem sLX10_isAsHeard_13 (C : Cx p s m args meth c cX10_isAsHeard 5 RX10 G) (hr : meth.sig.returnType = some .boolean) : ∀ (n : Nat) (l1 : Int32) (l2 : Int32) (S : St) (res : (Int32 × St)) (H : Heap) (locs : List Loc) (ls : Array Slot), Dy G S s H locs → lv_has ls 5 [(0, .ref (gR G 142)), (1, .int l1), (2, .int l2)] → LX10_isAsHeard_13 n l1 l2 S = some res → W p l e (rmL 9 0 0) s m args below meth c H locs 0 0 (MQ below (QI G res.1 res.2) args s 0 0 (Ab G)) (F0 m 13 ls []) := by
  intro n
  induction n with
  | zero => intro l1 l2 S res H locs ls  hd hl h; cases h
  | succ n ih =>
    intro l1 l2 S res H locs ls  hd hl h
    exact sKX10_isAsHeard_13 C hr ih  hd hl h
def fX10_isAsHeard  (S : St) : Option (Int32 × St) :=
  bv (fX10_pack 176 0 S) fun S => (LX10_isAsHeard_13 FU 1 1 S)
set_option maxHeartbeats 4000000 in
set_option maxRecDepth 20000 in
theorem sfX10_isAsHeard (C : Cx p s m args meth c cX10_isAsHeard 5 RX10 G) (hr : meth.sig.returnType = some .boolean)  {S : St} {res : (Int32 × St)} {H : Heap} {locs : List Loc} {ls : Array Slot}  (hd : Dy G S s H locs) (hl : lv_has ls 5 [(0, .ref (gR G 142))]) (h : fX10_isAsHeard  S = some res) : W p l e (rmL 9 0 0) s m args below meth c H locs 0 0 (MQ below (QI G res.1 res.2) args s 0 0 (Ab G)) (F0 m 0 ls []) := by
  unfold fX10_isAsHeard at h
  have hx := C.1.1
  have hb := C.1.2.1
  refine lv_aload_n hx hb dX10_isAsHeard_0 rfl (lv_at hl 0 rfl) ?_
  refine lv_aload_n hx hb dX10_isAsHeard_1 rfl (lv_at hl 0 rfl) ?_
  refine gX10_137 C hd (rfl : kd 142 = 10) (q := 176) rfl dX10_isAsHeard_2 (fun y1 => ?_)
  refine lv_iconst (v := 0) hx hb dX10_isAsHeard_5 (by decide) ?_
  obtain ⟨S1, hc, h⟩ := bv_some h
  refine R_cVv C hd (ccX10_pack l G y1 hc) kX10_406 rfl (by decide) (rfl : kd 142 = 10) hl.1 ⟨by decide, by decide⟩ rfl rfl (Nat.le_of_ble_eq_true rfl) dX10_isAsHeard_6 ⟨Nat.zero_le _, Nat.zero_le _⟩ (fun H locs hd => ?_)
  generalize S1 = S at h hd
  refine lv_iconst (v := 1) hx hb dX10_isAsHeard_9 (by decide) ?_
  refine lv_istore_n (lv' := [(1, .int 1), (0, .ref (gR G 142))]) hx hb dX10_isAsHeard_10 rfl hl (by decide) rfl (fun ls hl => ?_)
  refine lv_iconst (v := 1) hx hb dX10_isAsHeard_11 (by decide) ?_
  refine lv_istore_n (lv' := [(2, .int 1), (1, .int 1), (0, .ref (gR G 142))]) hx hb dX10_isAsHeard_12 rfl hl (by decide) rfl (fun ls hl => ?_)
  exact sLX10_isAsHeard_13 C hr _ 1 1 _ _ _ _ _  hd (lv_sub hl [2, 1, 0] rfl) h
set_option maxRecDepth 20000 in
theorem ccX10_isAsHeard (l : Launch) (G : Gt)  {S : St} {res : (Int32 × St)}  (h : fX10_isAsHeard  S = some res) : Met l yX10_isAsHeard (wm yX10_isAsHeard cX10_isAsHeard 5 (some .boolean)) (rmL 9 0 0) (PcW G S [.ref (gR G 142)]) (QI G res.1 res.2) 0 0 (Ab G) := by
  refine Met.ofW (cc := cX10_isAsHeard) (maxL := 5) (ret := (some .boolean)) (by decide) rfl ?_
  intro p e s m args below meth c s₁ B hml hv
  obtain ⟨rfl, hK, hP⟩ := hv
  have C : Cx p s m _ meth c cX10_isAsHeard 5 RX10 G := ⟨⟨B.exec, B.bytes, hml, findClass_of_methodNamed B.named, fun w hw => atoms_spec (ws := wm yX10_isAsHeard cX10_isAsHeard 5 (some .boolean)) B.pre w (List.mem_cons_of_mem _ hw)⟩, B.notSynchronized, hK⟩
  have hl := lv_entry ([.ref (gR G 142)]) (n := 5) (Nat.le_of_ble_eq_true rfl)
  rw [lg_entry_eq]
  generalize (lg_sl ([.ref (gR G 142)]) ++ List.replicate (5 - (lg_sl ([.ref (gR G 142)])).length) Slot.unset).toArray = ls at hl ⊢
  exact sfX10_isAsHeard C B.returns  ⟨hP, va_S.rf⟩ hl h
end T34
