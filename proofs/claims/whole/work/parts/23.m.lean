section T23
variable {p : Program} {l : Launch} {e : Env} {s : State} {m : MethodId} {args : Array Value} {below : List Frame} {meth : Method} {c : Code} {G : Gt}
def KX0_findPlaces_2 (r2 : Int32 → St → Option St) (l1 : Int32) (S : St) : Option St :=
  gm S 130 0 8 fun q1 => (if (S q1 2) ≤ l1 then some S else gm S 130 0 8 fun q4 => bd (fX8_placeOf q4 131 l1 S) fun x6 S => wr S 132 l1 x6 fun S => vl (l1 + 1) fun x7 => (r2 x7 S))
set_option maxHeartbeats 4000000 in
set_option maxRecDepth 20000 in
theorem sKX0_findPlaces_2 (C : Cx p s m args meth c cX0_findPlaces 2 RX0 G) (hr : meth.sig.returnType = none) {r2 : Int32 → St → Option St} (hr2 : ∀ (l1 : Int32) (S : St) (res : St) (H : Heap) (locs : List Loc) (ls : Array Slot), Dy G S s H locs → lv_has ls 2 [(0, .ref (gR G 130)), (1, .int l1)] → r2 l1 S = some res → W p l e (rmL 4 0 0) s m args below meth c H locs 0 0 (MQ below (QV G res) args s 0 0 (Ab G)) (F0 m 2 ls [])) {l1 : Int32} {S : St} {res : St} {H : Heap} {locs : List Loc} {ls : Array Slot}  (hd : Dy G S s H locs) (hl : lv_has ls 2 [(0, .ref (gR G 130)), (1, .int l1)]) (h : KX0_findPlaces_2 r2 l1 S = some res) : W p l e (rmL 4 0 0) s m args below meth c H locs 0 0 (MQ below (QV G res) args s 0 0 (Ab G)) (F0 m 2 ls []) := by
  unfold KX0_findPlaces_2 at h
  have hx := C.1.1
  have hb := C.1.2.1
  refine lv_iload_n hx hb dX0_findPlaces_2 rfl (lv_at hl 1 rfl) ?_
  refine lv_aload_n hx hb dX0_findPlaces_3 rfl (lv_at hl 0 rfl) ?_
  refine gX0_30 C hd (rfl : kd 130 = 0) h dX0_findPlaces_4 (fun q1 kq1 h => ?_)
  refine gX0_49 C hd kq1 dX0_findPlaces_7 ?_
  refine lv_icmp_ge (tgt := 37) hx hb dX0_findPlaces_10 (by decide) (fun c2 => ?_) (fun c2 => ?_)
  · rw [if_pos c2] at h
    exact R_vret C hr hd h dX0_findPlaces_37
  · rw [if_neg c2] at h
    refine lv_aload_n hx hb dX0_findPlaces_13 rfl (lv_at hl 0 rfl) ?_
    refine gX0_15 C hd (rfl : kd 130 = 0) (q := 132) rfl dX0_findPlaces_14 (fun y3 => ?_)
    refine lv_iload_n hx hb dX0_findPlaces_17 rfl (lv_at hl 1 rfl) ?_
    refine lv_aload_n hx hb dX0_findPlaces_18 rfl (lv_at hl 0 rfl) ?_
    refine gX0_30 C hd (rfl : kd 130 = 0) h dX0_findPlaces_19 (fun q4 kq4 h => ?_)
    refine lv_aload_n hx hb dX0_findPlaces_22 rfl (lv_at hl 0 rfl) ?_
    refine gX0_9 C hd (rfl : kd 130 = 0) (q := 131) rfl dX0_findPlaces_23 (fun y5 => ?_)
    refine lv_iload_n hx hb dX0_findPlaces_26 rfl (lv_at hl 1 rfl) ?_
    obtain ⟨x6, S1, hc, h⟩ := bd_some h
    refine R_cVi C hd (ccX8_placeOf l G kq4 y5 hc) kX0_55 rfl (by decide) kq4 hl.1 ⟨by decide, by decide⟩ rfl rfl (Nat.le_of_ble_eq_true rfl) dX0_findPlaces_27 ⟨Nat.zero_le _, Nat.zero_le _⟩ (fun H locs hd => ?_)
    generalize S1 = S at h hd
    refine R_iast C hd y3 h dX0_findPlaces_30 (fun S H locs hd h => ?_)
    refine R_vi h (fun x7 ex7 h => ?_)
    refine lv_iinc (v := x7) (lv' := [(1, .int x7), (0, .ref (gR G 130))]) hx hb dX0_findPlaces_31 hl (k := 1) rfl (by rw [ex7]; rfl) (by decide) rfl (fun ls hl => ?_)
    refine lv_goto (tgt := 2) hx hb dX0_findPlaces_34 (by decide) ?_
    exact hr2 x7 _ _ _ _ _  hd (lv_sub hl [1, 0] rfl) h
def LX0_findPlaces_2 : Nat → Int32 → St → Option St
  | 0 => fun _ _ => none
  | n + 1 => fun l1 S => KX0_findPlaces_2 (LX0_findPlaces_2 n) l1 S
theorem sLX0_findPlaces_2 (C : Cx p s m args meth c cX0_findPlaces 2 RX0 G) (hr : meth.sig.returnType = none) : ∀ (n : Nat) (l1 : Int32) (S : St) (res : St) (H : Heap) (locs : List Loc) (ls : Array Slot), Dy G S s H locs → lv_has ls 2 [(0, .ref (gR G 130)), (1, .int l1)] → LX0_findPlaces_2 n l1 S = some res → W p l e (rmL 4 0 0) s m args below meth c H locs 0 0 (MQ below (QV G res) args s 0 0 (Ab G)) (F0 m 2 ls []) := by
  intro n
  induction n with
  | zero => intro l1 S res H locs ls  hd hl h; cases h
  | succ n ih =>
    intro l1 S res H locs ls  hd hl h
    exact sKX0_findPlaces_2 C hr ih  hd hl h
def fX0_findPlaces  (S : St) : Option St :=
  (LX0_findPlaces_2 FU 0 S)
set_option maxHeartbeats 4000000 in
set_option maxRecDepth 20000 in
theorem sfX0_findPlaces (C : Cx p s m args meth c cX0_findPlaces 2 RX0 G) (hr : meth.sig.returnType = none)  {S : St} {res : St} {H : Heap} {locs : List Loc} {ls : Array Slot}  (hd : Dy G S s H locs) (hl : lv_has ls 2 [(0, .ref (gR G 130))]) (h : fX0_findPlaces  S = some res) : W p l e (rmL 4 0 0) s m args below meth c H locs 0 0 (MQ below (QV G res) args s 0 0 (Ab G)) (F0 m 0 ls []) := by
  unfold fX0_findPlaces at h
  have hx := C.1.1
  have hb := C.1.2.1
  refine lv_iconst (v := 0) hx hb dX0_findPlaces_0 (by decide) ?_
  refine lv_istore_n (lv' := [(1, .int 0), (0, .ref (gR G 130))]) hx hb dX0_findPlaces_1 rfl hl (by decide) rfl (fun ls hl => ?_)
  exact sLX0_findPlaces_2 C hr _ 0 _ _ _ _ _  hd (lv_sub hl [1, 0] rfl) h
set_option maxRecDepth 20000 in
theorem ccX0_findPlaces (l : Launch) (G : Gt)  {S : St} {res : St}  (h : fX0_findPlaces  S = some res) : Met l yX0_findPlaces (wm yX0_findPlaces cX0_findPlaces 2 (none)) (rmL 4 0 0) (PcW G S [.ref (gR G 130)]) (QV G res) 0 0 (Ab G) := by
  refine Met.ofW (cc := cX0_findPlaces) (maxL := 2) (ret := none) (by decide) rfl ?_
  intro p e s m args below meth c s₁ B hml hv
  obtain ⟨rfl, hK, hP⟩ := hv
  have C : Cx p s m _ meth c cX0_findPlaces 2 RX0 G := ⟨⟨B.exec, B.bytes, hml, findClass_of_methodNamed B.named, fun w hw => atoms_spec (ws := wm yX0_findPlaces cX0_findPlaces 2 (none)) B.pre w (List.mem_cons_of_mem _ hw)⟩, B.notSynchronized, hK⟩
  have hl := lv_entry ([.ref (gR G 130)]) (n := 2) (Nat.le_of_ble_eq_true rfl)
  rw [lg_entry_eq]
  generalize (lg_sl ([.ref (gR G 130)]) ++ List.replicate (2 - (lg_sl ([.ref (gR G 130)])).length) Slot.unset).toArray = ls at hl ⊢
  exact sfX0_findPlaces C B.returns  ⟨hP, va_S.rf⟩ hl h
def fX0_begin (a1 : Nat) (a2 : Nat) (S : St) : Option St :=
  pf S 130 0 (nI a1) fun S => ac S a2 0 131 0 106 fun S => bv (fJ7_fill_53178 134 0 S) fun S => bv (fJ7_fill_53178 135 0 S) fun S => bv (fX0_findPlaces  S) fun S => some S
set_option maxHeartbeats 4000000 in
set_option maxRecDepth 20000 in
theorem sfX0_begin (C : Cx p s m args meth c cX0_begin 3 RX0 G) (hr : meth.sig.returnType = none) {a1 : Nat} {a2 : Nat} {S : St} {res : St} {H : Heap} {locs : List Loc} {ls : Array Slot} (k1 : kd a1 = 8) (k2 : kd a2 = 20) (hd : Dy G S s H locs) (hl : lv_has ls 3 [(0, .ref (gR G 130)), (1, .ref (gR G a1)), (2, .ref (gR G a2))]) (h : fX0_begin a1 a2 S = some res) : W p l e (rmL 5 0 0) s m args below meth c H locs 0 0 (MQ below (QV G res) args s 0 0 (Ab G)) (F0 m 0 ls []) := by
  unfold fX0_begin at h
  have hx := C.1.1
  have hb := C.1.2.1
  refine lv_aload_n hx hb dX0_begin_0 rfl (lv_at hl 0 rfl) ?_
  refine lv_aload_n hx hb dX0_begin_1 rfl (lv_at hl 1 rfl) ?_
  refine pX0_30 C hd (rfl : kd 130 = 0) k1 h dX0_begin_2 (fun S H locs hd h => ?_)
  refine lv_aload_n hx hb dX0_begin_5 rfl (lv_at hl 2 rfl) ?_
  refine lv_iconst (v := 0) hx hb dX0_begin_6 (by decide) ?_
  refine lv_aload_n hx hb dX0_begin_7 rfl (lv_at hl 0 rfl) ?_
  refine gX0_9 C hd (rfl : kd 130 = 0) (q := 131) rfl dX0_begin_8 (fun y1 => ?_)
  refine lv_iconst (v := 0) hx hb dX0_begin_11 (by decide) ?_
  refine lv_bipush (v := 106) hx hb dX0_begin_12 (by decide) ?_
  refine R_ac C hl.1 kaX0_34 hd k2 y1 h (Nat.le_of_ble_eq_true rfl) (Nat.le_of_ble_eq_true rfl) dX0_begin_14 (fun S H locs hd h => ?_)
  refine lv_aload_n hx hb dX0_begin_17 rfl (lv_at hl 0 rfl) ?_
  refine gX0_21 C hd (rfl : kd 130 = 0) (q := 134) rfl dX0_begin_18 (fun y2 => ?_)
  refine lv_iconst (v := 0) hx hb dX0_begin_21 (by decide) ?_
  obtain ⟨S1, hc, h⟩ := bv_some h
  refine R_cSv C hd (ccJ7_fill_53178 l G y2 hc) kX0_40  hl.1 ⟨by decide, by decide⟩ rfl rfl (Nat.le_of_ble_eq_true rfl) dX0_begin_22 ⟨Nat.zero_le _, Nat.zero_le _⟩ (fun H locs hd => ?_)
  generalize S1 = S at h hd
  refine lv_aload_n hx hb dX0_begin_25 rfl (lv_at hl 0 rfl) ?_
  refine gX0_24 C hd (rfl : kd 130 = 0) (q := 135) rfl dX0_begin_26 (fun y3 => ?_)
  refine lv_iconst (v := 0) hx hb dX0_begin_29 (by decide) ?_
  obtain ⟨S1, hc, h⟩ := bv_some h
  refine R_cSv C hd (ccJ7_fill_53178 l G y3 hc) kX0_40  hl.1 ⟨by decide, by decide⟩ rfl rfl (Nat.le_of_ble_eq_true rfl) dX0_begin_30 ⟨Nat.zero_le _, Nat.zero_le _⟩ (fun H locs hd => ?_)
  generalize S1 = S at h hd
  refine lv_aload_n hx hb dX0_begin_33 rfl (lv_at hl 0 rfl) ?_
  obtain ⟨S1, hc, h⟩ := bv_some h
  refine R_cVv C hd (ccX0_findPlaces l G  hc) kX0_46 rfl (by decide) (rfl : kd 130 = 0) hl.1 ⟨by decide, by decide⟩ rfl rfl (Nat.le_of_ble_eq_true rfl) dX0_begin_34 ⟨Nat.zero_le _, Nat.zero_le _⟩ (fun H locs hd => ?_)
  generalize S1 = S at h hd
  exact R_vret C hr hd h dX0_begin_37
set_option maxRecDepth 20000 in
theorem ccX0_begin (l : Launch) (G : Gt) {a1 : Nat} {a2 : Nat} {S : St} {res : St} (k1 : kd a1 = 8) (k2 : kd a2 = 20) (h : fX0_begin a1 a2 S = some res) : Met l yX0_begin (wm yX0_begin cX0_begin 3 (none)) (rmL 5 0 0) (PcW G S [.ref (gR G 130), .ref (gR G a1), .ref (gR G a2)]) (QV G res) 0 0 (Ab G) := by
  refine Met.ofW (cc := cX0_begin) (maxL := 3) (ret := none) (by decide) rfl ?_
  intro p e s m args below meth c s₁ B hml hv
  obtain ⟨rfl, hK, hP⟩ := hv
  have C : Cx p s m _ meth c cX0_begin 3 RX0 G := ⟨⟨B.exec, B.bytes, hml, findClass_of_methodNamed B.named, fun w hw => atoms_spec (ws := wm yX0_begin cX0_begin 3 (none)) B.pre w (List.mem_cons_of_mem _ hw)⟩, B.notSynchronized, hK⟩
  have hl := lv_entry ([.ref (gR G 130), .ref (gR G a1), .ref (gR G a2)]) (n := 3) (Nat.le_of_ble_eq_true rfl)
  rw [lg_entry_eq]
  generalize (lg_sl ([.ref (gR G 130), .ref (gR G a1), .ref (gR G a2)]) ++ List.replicate (3 - (lg_sl ([.ref (gR G 130), .ref (gR G a1), .ref (gR G a2)])).length) Slot.unset).toArray = ls at hl ⊢
  exact sfX0_begin C B.returns k1 k2 ⟨hP, va_S.rf⟩ hl h
def BX0_fineOf_126 (l5 : Int32) (S : St) : Option (Int32 × St) :=
  vl (if l5 < 99 then l5 else 99) fun x1 => vl (if 0 < x1 then x1 else 0) fun x2 => ri x2 S
set_option maxHeartbeats 4000000 in
set_option maxRecDepth 20000 in
theorem sBX0_fineOf_126 (C : Cx p s m args meth c cX0_fineOf 6 RX0 G) (hr : meth.sig.returnType = some .int) {l5 : Int32} {S : St} {res : (Int32 × St)} {H : Heap} {locs : List Loc} {ls : Array Slot}  (hd : Dy G S s H locs) (hl : lv_has ls 6 [(0, .ref (gR G 130)), (5, .int l5)]) (h : BX0_fineOf_126 l5 S = some res) : W p l e (rmL 4 0 0) s m args below meth c H locs 0 0 (MQ below (QI G res.1 res.2) args s 0 0 (Ab G)) (F0 m 126 ls []) := by
  unfold BX0_fineOf_126 at h
  have hx := C.1.1
  have hb := C.1.2.1
  refine lv_iconst (v := 0) hx hb dX0_fineOf_126 (by decide) ?_
  refine lv_bipush (v := 99) hx hb dX0_fineOf_127 (by decide) ?_
  refine lv_iload hx hb dX0_fineOf_129 (lv_at hl 1 rfl) ?_
  refine R_mmin C hl.1 kmX0_112 (Nat.le_of_ble_eq_true rfl) (Nat.le_of_ble_eq_true rfl) (Nat.le_of_ble_eq_true rfl) (Nat.le_of_ble_eq_true rfl) dX0_fineOf_131 ?_
  refine R_vl h (fun x1 h => ?_)
  refine R_mmax C hl.1 kmX0_109 (Nat.le_of_ble_eq_true rfl) (Nat.le_of_ble_eq_true rfl) (Nat.le_of_ble_eq_true rfl) (Nat.le_of_ble_eq_true rfl) dX0_fineOf_134 ?_
  refine R_vl h (fun x2 h => ?_)
  exact R_iret C hr hd h dX0_fineOf_137
def BX0_fineOf_35 (l1 : Int32) (l2 : Int32) (l3 : Int32) (s0 : Int32) (S : St) : Option (Int32 × St) :=
  gm S 130 0 8 fun q1 => (if (S (sr q1 13) 0) = 0 then (BX0_fineOf_126 s0 S) else wr S 136 0 s0 fun S => gm S 130 0 8 fun q6 => rd S (sr q6 3) l2 fun x8 => wr S 136 1 x8 fun S => gm S 130 0 8 fun q10 => rd S (sr q10 4) l2 fun x12 => wr S 136 2 x12 fun S => wr S 136 3 l3 fun S => rd S 131 (8 + l1) fun x16 => wr S 136 4 x16 fun S => gm S 130 0 8 fun q17 => bd (fX3_answer (sr q17 13) 136 S) fun x20 S => (BX0_fineOf_126 x20 S))
set_option maxHeartbeats 4000000 in
set_option maxRecDepth 20000 in
theorem sBX0_fineOf_35 (C : Cx p s m args meth c cX0_fineOf 6 RX0 G) (hr : meth.sig.returnType = some .int) {l1 : Int32} {l2 : Int32} {l3 : Int32} {s0 : Int32} {S : St} {res : (Int32 × St)} {H : Heap} {locs : List Loc} {ls : Array Slot}  (hd : Dy G S s H locs) (hl : lv_has ls 6 [(0, .ref (gR G 130)), (1, .int l1), (2, .int l2), (3, .int l3)]) (h : BX0_fineOf_35 l1 l2 l3 s0 S = some res) : W p l e (rmL 4 0 0) s m args below meth c H locs 0 0 (MQ below (QI G res.1 res.2) args s 0 0 (Ab G)) (F0 m 35 ls [.int s0]) := by
  unfold BX0_fineOf_35 at h
  have hx := C.1.1
  have hb := C.1.2.1
  refine lv_istore (lv' := [(5, .int s0), (0, .ref (gR G 130)), (1, .int l1), (2, .int l2), (3, .int l3)]) hx hb dX0_fineOf_35 hl (by decide) rfl (fun ls hl => ?_)
  refine lv_aload_n hx hb dX0_fineOf_37 rfl (lv_at hl 1 rfl) ?_
  refine gX0_30 C hd (rfl : kd 130 = 0) h dX0_fineOf_38 (fun q1 kq1 h => ?_)
  refine gX0_122 C hd kq1 (q := sr q1 13) rfl dX0_fineOf_41 (fun y2 => ?_)
  refine gX0_74 C hd y2 dX0_fineOf_44 ?_
  refine lv_if_eq (tgt := 126) hx hb dX0_fineOf_47 (by decide) (fun c3 => ?_) (fun c3 => ?_)
  · rw [if_pos c3] at h
    exact sBX0_fineOf_126 C hr  hd (lv_sub hl [1, 0] rfl) h
  · rw [if_neg c3] at h
    refine lv_aload_n hx hb dX0_fineOf_50 rfl (lv_at hl 1 rfl) ?_
    refine gX0_27 C hd (rfl : kd 130 = 0) (q := 136) rfl dX0_fineOf_51 (fun y4 => ?_)
    refine lv_iconst (v := 0) hx hb dX0_fineOf_54 (by decide) ?_
    refine lv_iload hx hb dX0_fineOf_55 (lv_at hl 0 rfl) ?_
    refine R_iast C hd y4 h dX0_fineOf_57 (fun S H locs hd h => ?_)
    refine lv_aload_n hx hb dX0_fineOf_58 rfl (lv_at hl 1 rfl) ?_
    refine gX0_27 C hd (rfl : kd 130 = 0) (q := 136) rfl dX0_fineOf_59 (fun y5 => ?_)
    refine lv_iconst (v := 1) hx hb dX0_fineOf_62 (by decide) ?_
    refine lv_aload_n hx hb dX0_fineOf_63 rfl (lv_at hl 1 rfl) ?_
    refine gX0_30 C hd (rfl : kd 130 = 0) h dX0_fineOf_64 (fun q6 kq6 h => ?_)
    refine gX0_125 C hd kq6 (q := sr q6 3) rfl dX0_fineOf_67 (fun y7 => ?_)
    refine lv_iload_n hx hb dX0_fineOf_70 rfl (lv_at hl 3 rfl) ?_
    refine R_iald C hd y7 h dX0_fineOf_71 (fun x8 h => ?_)
    refine R_iast C hd y5 h dX0_fineOf_72 (fun S H locs hd h => ?_)
    refine lv_aload_n hx hb dX0_fineOf_73 rfl (lv_at hl 1 rfl) ?_
    refine gX0_27 C hd (rfl : kd 130 = 0) (q := 136) rfl dX0_fineOf_74 (fun y9 => ?_)
    refine lv_iconst (v := 2) hx hb dX0_fineOf_77 (by decide) ?_
    refine lv_aload_n hx hb dX0_fineOf_78 rfl (lv_at hl 1 rfl) ?_
    refine gX0_30 C hd (rfl : kd 130 = 0) h dX0_fineOf_79 (fun q10 kq10 h => ?_)
    refine gX0_128 C hd kq10 (q := sr q10 4) rfl dX0_fineOf_82 (fun y11 => ?_)
    refine lv_iload_n hx hb dX0_fineOf_85 rfl (lv_at hl 3 rfl) ?_
    refine R_iald C hd y11 h dX0_fineOf_86 (fun x12 h => ?_)
    refine R_iast C hd y9 h dX0_fineOf_87 (fun S H locs hd h => ?_)
    refine lv_aload_n hx hb dX0_fineOf_88 rfl (lv_at hl 1 rfl) ?_
    refine gX0_27 C hd (rfl : kd 130 = 0) (q := 136) rfl dX0_fineOf_89 (fun y13 => ?_)
    refine lv_iconst (v := 3) hx hb dX0_fineOf_92 (by decide) ?_
    refine lv_iload_n hx hb dX0_fineOf_93 rfl (lv_at hl 4 rfl) ?_
    refine R_iast C hd y13 h dX0_fineOf_94 (fun S H locs hd h => ?_)
    refine lv_aload_n hx hb dX0_fineOf_95 rfl (lv_at hl 1 rfl) ?_
    refine gX0_27 C hd (rfl : kd 130 = 0) (q := 136) rfl dX0_fineOf_96 (fun y14 => ?_)
    refine lv_iconst (v := 4) hx hb dX0_fineOf_99 (by decide) ?_
    refine lv_aload_n hx hb dX0_fineOf_100 rfl (lv_at hl 1 rfl) ?_
    refine gX0_9 C hd (rfl : kd 130 = 0) (q := 131) rfl dX0_fineOf_101 (fun y15 => ?_)
    refine lv_bipush (v := 8) hx hb dX0_fineOf_104 (by decide) ?_
    refine lv_iload_n hx hb dX0_fineOf_106 rfl (lv_at hl 2 rfl) ?_
    refine lv_iadd hx hb dX0_fineOf_107 ?_
    refine R_iald C hd y15 h dX0_fineOf_108 (fun x16 h => ?_)
    refine R_iast C hd y14 h dX0_fineOf_109 (fun S H locs hd h => ?_)
    refine lv_aload_n hx hb dX0_fineOf_110 rfl (lv_at hl 1 rfl) ?_
    refine gX0_30 C hd (rfl : kd 130 = 0) h dX0_fineOf_111 (fun q17 kq17 h => ?_)
    refine gX0_122 C hd kq17 (q := sr q17 13) rfl dX0_fineOf_114 (fun y18 => ?_)
    refine lv_aload_n hx hb dX0_fineOf_117 rfl (lv_at hl 1 rfl) ?_
    refine gX0_27 C hd (rfl : kd 130 = 0) (q := 136) rfl dX0_fineOf_118 (fun y19 => ?_)
    obtain ⟨x20, S1, hc, h⟩ := bd_some h
    refine R_cVi C hd (ccX3_answer l G y18 y19 hc) kX0_88 rfl (by decide) y18 hl.1 ⟨by decide, by decide⟩ rfl rfl (Nat.le_of_ble_eq_true rfl) dX0_fineOf_121 ⟨Nat.zero_le _, Nat.zero_le _⟩ (fun H locs hd => ?_)
    generalize S1 = S at h hd
    refine lv_istore (lv' := [(5, .int x20), (0, .ref (gR G 130)), (1, .int l1), (2, .int l2), (3, .int l3)]) hx hb dX0_fineOf_124 hl (by decide) rfl (fun ls hl => ?_)
    exact sBX0_fineOf_126 C hr  hd (lv_sub hl [1, 0] rfl) h
def fX0_fineOf (a1 : Int32) (a2 : Int32) (a3 : Int32) (S : St) : Option (Int32 × St) :=
  gm S 130 0 8 fun q1 => rd S 132 a1 fun x4 => rd S (sr q1 7) ((x4 * 8) + a2) fun x5 => (if x5 < 1000000 then (BX0_fineOf_35 a1 a2 a3 x5 S) else (BX0_fineOf_35 a1 a2 a3 99 S))
set_option maxHeartbeats 4000000 in
set_option maxRecDepth 20000 in
theorem sfX0_fineOf (C : Cx p s m args meth c cX0_fineOf 6 RX0 G) (hr : meth.sig.returnType = some .int) {a1 : Int32} {a2 : Int32} {a3 : Int32} {S : St} {res : (Int32 × St)} {H : Heap} {locs : List Loc} {ls : Array Slot}  (hd : Dy G S s H locs) (hl : lv_has ls 6 [(0, .ref (gR G 130)), (1, .int a1), (2, .int a2), (3, .int a3)]) (h : fX0_fineOf a1 a2 a3 S = some res) : W p l e (rmL 4 0 0) s m args below meth c H locs 0 0 (MQ below (QI G res.1 res.2) args s 0 0 (Ab G)) (F0 m 0 ls []) := by
  unfold fX0_fineOf at h
  have hx := C.1.1
  have hb := C.1.2.1
  refine lv_aload_n hx hb dX0_fineOf_0 rfl (lv_at hl 0 rfl) ?_
  refine gX0_30 C hd (rfl : kd 130 = 0) h dX0_fineOf_1 (fun q1 kq1 h => ?_)
  refine gX0_118 C hd kq1 (q := sr q1 7) rfl dX0_fineOf_4 (fun y2 => ?_)
  refine lv_aload_n hx hb dX0_fineOf_7 rfl (lv_at hl 0 rfl) ?_
  refine gX0_15 C hd (rfl : kd 130 = 0) (q := 132) rfl dX0_fineOf_8 (fun y3 => ?_)
  refine lv_iload_n hx hb dX0_fineOf_11 rfl (lv_at hl 1 rfl) ?_
  refine R_iald C hd y3 h dX0_fineOf_12 (fun x4 h => ?_)
  refine lv_bipush (v := 8) hx hb dX0_fineOf_13 (by decide) ?_
  refine lv_imul hx hb dX0_fineOf_15 ?_
  refine lv_iload_n hx hb dX0_fineOf_16 rfl (lv_at hl 2 rfl) ?_
  refine lv_iadd hx hb dX0_fineOf_17 ?_
  refine R_iald C hd y2 h dX0_fineOf_18 (fun x5 h => ?_)
  refine lv_istore (lv' := [(4, .int x5), (0, .ref (gR G 130)), (1, .int a1), (2, .int a2), (3, .int a3)]) hx hb dX0_fineOf_19 hl (by decide) rfl (fun ls hl => ?_)
  refine lv_iload hx hb dX0_fineOf_21 (lv_at hl 0 rfl) ?_
  refine lv_ldc hx hb C.1.2.2.2.1 (C.1.2.2.2.2 _ kcX0_121) dX0_fineOf_23 ?_
  refine lv_icmp_lt (tgt := 33) hx hb dX0_fineOf_25 (by decide) (fun c6 => ?_) (fun c6 => ?_)
  · rw [if_pos c6] at h
    refine lv_iload hx hb dX0_fineOf_33 (lv_at hl 0 rfl) ?_
    exact sBX0_fineOf_35 C hr  hd (lv_sub hl [1, 2, 3, 4] rfl) h
  · rw [if_neg c6] at h
    refine lv_bipush (v := 99) hx hb dX0_fineOf_28 (by decide) ?_
    refine lv_goto (tgt := 35) hx hb dX0_fineOf_30 (by decide) ?_
    exact sBX0_fineOf_35 C hr  hd (lv_sub hl [1, 2, 3, 4] rfl) h
set_option maxRecDepth 20000 in
theorem ccX0_fineOf (l : Launch) (G : Gt) {a1 : Int32} {a2 : Int32} {a3 : Int32} {S : St} {res : (Int32 × St)}  (h : fX0_fineOf a1 a2 a3 S = some res) : Met l yX0_fineOf (wm yX0_fineOf cX0_fineOf 6 (some .int)) (rmL 4 0 0) (PcW G S [.ref (gR G 130), .int a1, .int a2, .int a3]) (QI G res.1 res.2) 0 0 (Ab G) := by
  refine Met.ofW (cc := cX0_fineOf) (maxL := 6) (ret := (some .int)) (by decide) rfl ?_
  intro p e s m args below meth c s₁ B hml hv
  obtain ⟨rfl, hK, hP⟩ := hv
  have C : Cx p s m _ meth c cX0_fineOf 6 RX0 G := ⟨⟨B.exec, B.bytes, hml, findClass_of_methodNamed B.named, fun w hw => atoms_spec (ws := wm yX0_fineOf cX0_fineOf 6 (some .int)) B.pre w (List.mem_cons_of_mem _ hw)⟩, B.notSynchronized, hK⟩
  have hl := lv_entry ([.ref (gR G 130), .int a1, .int a2, .int a3]) (n := 6) (Nat.le_of_ble_eq_true rfl)
  rw [lg_entry_eq]
  generalize (lg_sl ([.ref (gR G 130), .int a1, .int a2, .int a3]) ++ List.replicate (6 - (lg_sl ([.ref (gR G 130), .int a1, .int a2, .int a3])).length) Slot.unset).toArray = ls at hl ⊢
  exact sfX0_fineOf C B.returns  ⟨hP, va_S.rf⟩ hl h
def BX0_spread_72 (r21 : Int32 → Int32 → Int32 → Int32 → Int32 → St → Option (Int32 × St)) (l2 : Int32) (l3 : Int32) (l4 : Int32) (l5 : Int32) (l6 : Int32) (S : St) : Option (Int32 × St) :=
  vl (l6 + 1) fun x1 => (r21 l2 l3 l4 l5 x1 S)
set_option maxHeartbeats 4000000 in
set_option maxRecDepth 20000 in
theorem sBX0_spread_72 (C : Cx p s m args meth c cX0_spread 7 RX0 G) (hr : meth.sig.returnType = some .int) {r21 : Int32 → Int32 → Int32 → Int32 → Int32 → St → Option (Int32 × St)} (hr21 : ∀ (l2 : Int32) (l3 : Int32) (l4 : Int32) (l5 : Int32) (l6 : Int32) (S : St) (res : (Int32 × St)) (H : Heap) (locs : List Loc) (ls : Array Slot), Dy G S s H locs → lv_has ls 7 [(0, .ref (gR G 130)), (2, .int l2), (3, .int l3), (4, .int l4), (5, .int l5), (6, .int l6)] → r21 l2 l3 l4 l5 l6 S = some res → W p l e (rmL 3 0 0) s m args below meth c H locs 0 0 (MQ below (QI G res.1 res.2) args s 0 0 (Ab G)) (F0 m 21 ls [])) {l2 : Int32} {l3 : Int32} {l4 : Int32} {l5 : Int32} {l6 : Int32} {S : St} {res : (Int32 × St)} {H : Heap} {locs : List Loc} {ls : Array Slot}  (hd : Dy G S s H locs) (hl : lv_has ls 7 [(0, .ref (gR G 130)), (2, .int l2), (3, .int l3), (4, .int l4), (5, .int l5), (6, .int l6)]) (h : BX0_spread_72 r21 l2 l3 l4 l5 l6 S = some res) : W p l e (rmL 3 0 0) s m args below meth c H locs 0 0 (MQ below (QI G res.1 res.2) args s 0 0 (Ab G)) (F0 m 72 ls []) := by
  unfold BX0_spread_72 at h
  have hx := C.1.1
  have hb := C.1.2.1
  refine R_vi h (fun x1 ex1 h => ?_)
  refine lv_iinc (v := x1) (lv' := [(6, .int x1), (0, .ref (gR G 130)), (2, .int l2), (3, .int l3), (4, .int l4), (5, .int l5)]) hx hb dX0_spread_72 hl (k := 5) rfl (by rw [ex1]; rfl) (by decide) rfl (fun ls hl => ?_)
  refine lv_goto (tgt := 21) hx hb dX0_spread_75 (by decide) ?_
  exact hr21 l2 l3 l4 l5 x1 _ _ _ _ _  hd (lv_sub hl [1, 2, 3, 4, 5, 0] rfl) h
def KX0_spread_21 (r21 : Int32 → Int32 → Int32 → Int32 → Int32 → St → Option (Int32 × St)) (l2 : Int32) (l3 : Int32) (l4 : Int32) (l5 : Int32) (l6 : Int32) (S : St) : Option (Int32 × St) :=
  gm S 130 0 8 fun q1 => (if (S q1 2) ≤ l6 then ri l5 S else (if l6 = l3 then (BX0_spread_72 r21 l2 l3 l4 l5 l6 S) else rd S 132 l6 fun x5 => (if ((l4 >>> (x5 &&& 31)) &&& 1) = 0 then (BX0_spread_72 r21 l2 l3 l4 l5 l6 S) else vl (2 + l6) fun x8 => rd S 131 x8 fun x9 => wr S 131 x8 (x9 ||| ((1 : Int32) <<< (l2 &&& 31))) fun S => vl (l5 + 1) fun x10 => (BX0_spread_72 r21 l2 l3 l4 x10 l6 S))))
set_option maxHeartbeats 4000000 in
set_option maxRecDepth 20000 in
theorem sKX0_spread_21 (C : Cx p s m args meth c cX0_spread 7 RX0 G) (hr : meth.sig.returnType = some .int) {r21 : Int32 → Int32 → Int32 → Int32 → Int32 → St → Option (Int32 × St)} (hr21 : ∀ (l2 : Int32) (l3 : Int32) (l4 : Int32) (l5 : Int32) (l6 : Int32) (S : St) (res : (Int32 × St)) (H : Heap) (locs : List Loc) (ls : Array Slot), Dy G S s H locs → lv_has ls 7 [(0, .ref (gR G 130)), (2, .int l2), (3, .int l3), (4, .int l4), (5, .int l5), (6, .int l6)] → r21 l2 l3 l4 l5 l6 S = some res → W p l e (rmL 3 0 0) s m args below meth c H locs 0 0 (MQ below (QI G res.1 res.2) args s 0 0 (Ab G)) (F0 m 21 ls [])) {l2 : Int32} {l3 : Int32} {l4 : Int32} {l5 : Int32} {l6 : Int32} {S : St} {res : (Int32 × St)} {H : Heap} {locs : List Loc} {ls : Array Slot}  (hd : Dy G S s H locs) (hl : lv_has ls 7 [(0, .ref (gR G 130)), (2, .int l2), (3, .int l3), (4, .int l4), (5, .int l5), (6, .int l6)]) (h : KX0_spread_21 r21 l2 l3 l4 l5 l6 S = some res) : W p l e (rmL 3 0 0) s m args below meth c H locs 0 0 (MQ below (QI G res.1 res.2) args s 0 0 (Ab G)) (F0 m 21 ls []) := by
  unfold KX0_spread_21 at h
  have hx := C.1.1
  have hb := C.1.2.1
  refine lv_iload hx hb dX0_spread_21 (lv_at hl 5 rfl) ?_
  refine lv_aload_n hx hb dX0_spread_23 rfl (lv_at hl 0 rfl) ?_
  refine gX0_30 C hd (rfl : kd 130 = 0) h dX0_spread_24 (fun q1 kq1 h => ?_)
  refine gX0_49 C hd kq1 dX0_spread_27 ?_
  refine lv_icmp_ge (tgt := 78) hx hb dX0_spread_30 (by decide) (fun c2 => ?_) (fun c2 => ?_)
  · rw [if_pos c2] at h
    refine lv_iload hx hb dX0_spread_78 (lv_at hl 4 rfl) ?_
    exact R_iret C hr hd h dX0_spread_80
  · rw [if_neg c2] at h
    refine lv_iload hx hb dX0_spread_33 (lv_at hl 5 rfl) ?_
    refine lv_iload_n hx hb dX0_spread_35 rfl (lv_at hl 2 rfl) ?_
    refine lv_icmp_eq (tgt := 72) hx hb dX0_spread_36 (by decide) (fun c3 => ?_) (fun c3 => ?_)
    · rw [if_pos c3] at h
      exact sBX0_spread_72 C hr hr21  hd (lv_sub hl [0, 1, 2, 3, 4, 5] rfl) h
    · rw [if_neg c3] at h
      refine lv_iload hx hb dX0_spread_39 (lv_at hl 3 rfl) ?_
      refine lv_aload_n hx hb dX0_spread_41 rfl (lv_at hl 0 rfl) ?_
      refine gX0_15 C hd (rfl : kd 130 = 0) (q := 132) rfl dX0_spread_42 (fun y4 => ?_)
      refine lv_iload hx hb dX0_spread_45 (lv_at hl 5 rfl) ?_
      refine R_iald C hd y4 h dX0_spread_47 (fun x5 h => ?_)
      refine lv_ishr hx hb dX0_spread_48 ?_
      refine lv_iconst (v := 1) hx hb dX0_spread_49 (by decide) ?_
      refine lv_iand hx hb dX0_spread_50 ?_
      refine lv_if_eq (tgt := 72) hx hb dX0_spread_51 (by decide) (fun c6 => ?_) (fun c6 => ?_)
      · rw [if_pos c6] at h
        exact sBX0_spread_72 C hr hr21  hd (lv_sub hl [0, 1, 2, 3, 4, 5] rfl) h
      · rw [if_neg c6] at h
        refine lv_aload_n hx hb dX0_spread_54 rfl (lv_at hl 0 rfl) ?_
        refine gX0_9 C hd (rfl : kd 130 = 0) (q := 131) rfl dX0_spread_55 (fun y7 => ?_)
        refine lv_iconst (v := 2) hx hb dX0_spread_58 (by decide) ?_
        refine lv_iload hx hb dX0_spread_59 (lv_at hl 5 rfl) ?_
        refine lv_iadd hx hb dX0_spread_61 ?_
        refine R_vl h (fun x8 h => ?_)
        refine lv_dup2_11 hx hb dX0_spread_62 rfl rfl ?_
        refine R_iald C hd y7 h dX0_spread_63 (fun x9 h => ?_)
        refine lv_iconst (v := 1) hx hb dX0_spread_64 (by decide) ?_
        refine lv_iload_n hx hb dX0_spread_65 rfl (lv_at hl 1 rfl) ?_
        refine lv_ishl hx hb dX0_spread_66 ?_
        refine lv_ior hx hb dX0_spread_67 ?_
        refine R_iast C hd y7 h dX0_spread_68 (fun S H locs hd h => ?_)
        refine R_vi h (fun x10 ex10 h => ?_)
        refine lv_iinc (v := x10) (lv' := [(5, .int x10), (0, .ref (gR G 130)), (2, .int l2), (3, .int l3), (4, .int l4), (6, .int l6)]) hx hb dX0_spread_69 hl (k := 4) rfl (by rw [ex10]; rfl) (by decide) rfl (fun ls hl => ?_)
        exact sBX0_spread_72 C hr hr21  hd (lv_sub hl [1, 2, 3, 4, 0, 5] rfl) h
def LX0_spread_21 : Nat → Int32 → Int32 → Int32 → Int32 → Int32 → St → Option (Int32 × St)
  | 0 => fun _ _ _ _ _ _ => none
  | n + 1 => fun l2 l3 l4 l5 l6 S => KX0_spread_21 (LX0_spread_21 n) l2 l3 l4 l5 l6 S
theorem sLX0_spread_21 (C : Cx p s m args meth c cX0_spread 7 RX0 G) (hr : meth.sig.returnType = some .int) : ∀ (n : Nat) (l2 : Int32) (l3 : Int32) (l4 : Int32) (l5 : Int32) (l6 : Int32) (S : St) (res : (Int32 × St)) (H : Heap) (locs : List Loc) (ls : Array Slot), Dy G S s H locs → lv_has ls 7 [(0, .ref (gR G 130)), (2, .int l2), (3, .int l3), (4, .int l4), (5, .int l5), (6, .int l6)] → LX0_spread_21 n l2 l3 l4 l5 l6 S = some res → W p l e (rmL 3 0 0) s m args below meth c H locs 0 0 (MQ below (QI G res.1 res.2) args s 0 0 (Ab G)) (F0 m 21 ls []) := by
  intro n
  induction n with
  | zero => intro l2 l3 l4 l5 l6 S res H locs ls  hd hl h; cases h
  | succ n ih =>
    intro l2 l3 l4 l5 l6 S res H locs ls  hd hl h
    exact sKX0_spread_21 C hr ih  hd hl h
def fX0_spread (a1 : Int32) (a2 : Int32) (a3 : Int32) (S : St) : Option (Int32 × St) :=
  gm S 130 0 8 fun q1 => rd S (sr q1 6) a1 fun x3 => vl (x3 ||| ((1 : Int32) <<< (a1 &&& 31))) fun x4 => (LX0_spread_21 FU a2 a3 x4 0 0 S)
set_option maxHeartbeats 4000000 in
set_option maxRecDepth 20000 in
theorem sfX0_spread (C : Cx p s m args meth c cX0_spread 7 RX0 G) (hr : meth.sig.returnType = some .int) {a1 : Int32} {a2 : Int32} {a3 : Int32} {S : St} {res : (Int32 × St)} {H : Heap} {locs : List Loc} {ls : Array Slot}  (hd : Dy G S s H locs) (hl : lv_has ls 7 [(0, .ref (gR G 130)), (1, .int a1), (2, .int a2), (3, .int a3)]) (h : fX0_spread a1 a2 a3 S = some res) : W p l e (rmL 3 0 0) s m args below meth c H locs 0 0 (MQ below (QI G res.1 res.2) args s 0 0 (Ab G)) (F0 m 0 ls []) := by
  unfold fX0_spread at h
  have hx := C.1.1
  have hb := C.1.2.1
  refine lv_aload_n hx hb dX0_spread_0 rfl (lv_at hl 0 rfl) ?_
  refine gX0_30 C hd (rfl : kd 130 = 0) h dX0_spread_1 (fun q1 kq1 h => ?_)
  refine gX0_115 C hd kq1 (q := sr q1 6) rfl dX0_spread_4 (fun y2 => ?_)
  refine lv_iload_n hx hb dX0_spread_7 rfl (lv_at hl 1 rfl) ?_
  refine R_iald C hd y2 h dX0_spread_8 (fun x3 h => ?_)
  refine lv_iconst (v := 1) hx hb dX0_spread_9 (by decide) ?_
  refine lv_iload_n hx hb dX0_spread_10 rfl (lv_at hl 1 rfl) ?_
  refine lv_ishl hx hb dX0_spread_11 ?_
  refine lv_ior hx hb dX0_spread_12 ?_
  refine R_vl h (fun x4 h => ?_)
  refine lv_istore (lv' := [(4, .int x4), (0, .ref (gR G 130)), (1, .int a1), (2, .int a2), (3, .int a3)]) hx hb dX0_spread_13 hl (by decide) rfl (fun ls hl => ?_)
  refine lv_iconst (v := 0) hx hb dX0_spread_15 (by decide) ?_
  refine lv_istore (lv' := [(5, .int 0), (4, .int x4), (0, .ref (gR G 130)), (1, .int a1), (2, .int a2), (3, .int a3)]) hx hb dX0_spread_16 hl (by decide) rfl (fun ls hl => ?_)
  refine lv_iconst (v := 0) hx hb dX0_spread_18 (by decide) ?_
  refine lv_istore (lv' := [(6, .int 0), (5, .int 0), (4, .int x4), (0, .ref (gR G 130)), (1, .int a1), (2, .int a2), (3, .int a3)]) hx hb dX0_spread_19 hl (by decide) rfl (fun ls hl => ?_)
  exact sLX0_spread_21 C hr _ a2 a3 x4 0 0 _ _ _ _ _  hd (lv_sub hl [3, 5, 6, 2, 1, 0] rfl) h
set_option maxRecDepth 20000 in
theorem ccX0_spread (l : Launch) (G : Gt) {a1 : Int32} {a2 : Int32} {a3 : Int32} {S : St} {res : (Int32 × St)}  (h : fX0_spread a1 a2 a3 S = some res) : Met l yX0_spread (wm yX0_spread cX0_spread 7 (some .int)) (rmL 3 0 0) (PcW G S [.ref (gR G 130), .int a1, .int a2, .int a3]) (QI G res.1 res.2) 0 0 (Ab G) := by
  refine Met.ofW (cc := cX0_spread) (maxL := 7) (ret := (some .int)) (by decide) rfl ?_
  intro p e s m args below meth c s₁ B hml hv
  obtain ⟨rfl, hK, hP⟩ := hv
  have C : Cx p s m _ meth c cX0_spread 7 RX0 G := ⟨⟨B.exec, B.bytes, hml, findClass_of_methodNamed B.named, fun w hw => atoms_spec (ws := wm yX0_spread cX0_spread 7 (some .int)) B.pre w (List.mem_cons_of_mem _ hw)⟩, B.notSynchronized, hK⟩
  have hl := lv_entry ([.ref (gR G 130), .int a1, .int a2, .int a3]) (n := 7) (Nat.le_of_ble_eq_true rfl)
  rw [lg_entry_eq]
  generalize (lg_sl ([.ref (gR G 130), .int a1, .int a2, .int a3]) ++ List.replicate (7 - (lg_sl ([.ref (gR G 130), .int a1, .int a2, .int a3])).length) Slot.unset).toArray = ls at hl ⊢
  exact sfX0_spread C B.returns  ⟨hP, va_S.rf⟩ hl h
def fX0_wouldTrespass (a1 : Int32) (a2 : Int32) (S : St) : Option (Int32 × St) :=
  rd S 131 (98 + a2) fun x2 => rd S 132 a1 fun x4 => (if a2 = x4 then rz 0 S else rd S 131 ((14 + (a1 * 8)) + a2) fun x7 => (if x7 = 0 then (if x2 = (-1) then rz 0 S else (if x2 = a1 then rz 0 S else rz 1 S)) else rz 0 S))
set_option maxHeartbeats 4000000 in
set_option maxRecDepth 20000 in
theorem sfX0_wouldTrespass (C : Cx p s m args meth c cX0_wouldTrespass 4 RX0 G) (hr : meth.sig.returnType = some .boolean) {a1 : Int32} {a2 : Int32} {S : St} {res : (Int32 × St)} {H : Heap} {locs : List Loc} {ls : Array Slot}  (hd : Dy G S s H locs) (hl : lv_has ls 4 [(0, .ref (gR G 130)), (1, .int a1), (2, .int a2)]) (h : fX0_wouldTrespass a1 a2 S = some res) : W p l e (rmL 3 0 0) s m args below meth c H locs 0 0 (MQ below (QI G res.1 res.2) args s 0 0 (Ab G)) (F0 m 0 ls []) := by
  unfold fX0_wouldTrespass at h
  have hx := C.1.1
  have hb := C.1.2.1
  refine lv_aload_n hx hb dX0_wouldTrespass_0 rfl (lv_at hl 0 rfl) ?_
  refine gX0_9 C hd (rfl : kd 130 = 0) (q := 131) rfl dX0_wouldTrespass_1 (fun y1 => ?_)
  refine lv_bipush (v := 98) hx hb dX0_wouldTrespass_4 (by decide) ?_
  refine lv_iload_n hx hb dX0_wouldTrespass_6 rfl (lv_at hl 2 rfl) ?_
  refine lv_iadd hx hb dX0_wouldTrespass_7 ?_
  refine R_iald C hd y1 h dX0_wouldTrespass_8 (fun x2 h => ?_)
  refine lv_istore_n (lv' := [(3, .int x2), (0, .ref (gR G 130)), (1, .int a1), (2, .int a2)]) hx hb dX0_wouldTrespass_9 rfl hl (by decide) rfl (fun ls hl => ?_)
  refine lv_iload_n hx hb dX0_wouldTrespass_10 rfl (lv_at hl 3 rfl) ?_
  refine lv_aload_n hx hb dX0_wouldTrespass_11 rfl (lv_at hl 1 rfl) ?_
  refine gX0_15 C hd (rfl : kd 130 = 0) (q := 132) rfl dX0_wouldTrespass_12 (fun y3 => ?_)
  refine lv_iload_n hx hb dX0_wouldTrespass_15 rfl (lv_at hl 2 rfl) ?_
  refine R_iald C hd y3 h dX0_wouldTrespass_16 (fun x4 h => ?_)
  refine lv_icmp_eq (tgt := 51) hx hb dX0_wouldTrespass_17 (by decide) (fun c5 => ?_) (fun c5 => ?_)
  · rw [if_pos c5] at h
    refine lv_iconst (v := 0) hx hb dX0_wouldTrespass_51 (by decide) ?_
    exact R_zret C hr hd h dX0_wouldTrespass_52
  · rw [if_neg c5] at h
    refine lv_aload_n hx hb dX0_wouldTrespass_20 rfl (lv_at hl 1 rfl) ?_
    refine gX0_9 C hd (rfl : kd 130 = 0) (q := 131) rfl dX0_wouldTrespass_21 (fun y6 => ?_)
    refine lv_bipush (v := 14) hx hb dX0_wouldTrespass_24 (by decide) ?_
    refine lv_iload_n hx hb dX0_wouldTrespass_26 rfl (lv_at hl 2 rfl) ?_
    refine lv_bipush (v := 8) hx hb dX0_wouldTrespass_27 (by decide) ?_
    refine lv_imul hx hb dX0_wouldTrespass_29 ?_
    refine lv_iadd hx hb dX0_wouldTrespass_30 ?_
    refine lv_iload_n hx hb dX0_wouldTrespass_31 rfl (lv_at hl 3 rfl) ?_
    refine lv_iadd hx hb dX0_wouldTrespass_32 ?_
    refine R_iald C hd y6 h dX0_wouldTrespass_33 (fun x7 h => ?_)
    refine lv_if_ne (tgt := 51) hx hb dX0_wouldTrespass_34 (by decide) (fun c8 => ?_) (fun c8 => ?_)
    · rw [if_neg c8] at h
      refine lv_iconst (v := 0) hx hb dX0_wouldTrespass_51 (by decide) ?_
      exact R_zret C hr hd h dX0_wouldTrespass_52
    · rw [if_pos c8] at h
      refine lv_iload_n hx hb dX0_wouldTrespass_37 rfl (lv_at hl 0 rfl) ?_
      refine lv_iconst (v := -1) hx hb dX0_wouldTrespass_38 (by decide) ?_
      refine lv_icmp_eq (tgt := 51) hx hb dX0_wouldTrespass_39 (by decide) (fun c9 => ?_) (fun c9 => ?_)
      · rw [if_pos c9] at h
        refine lv_iconst (v := 0) hx hb dX0_wouldTrespass_51 (by decide) ?_
        exact R_zret C hr hd h dX0_wouldTrespass_52
      · rw [if_neg c9] at h
        refine lv_iload_n hx hb dX0_wouldTrespass_42 rfl (lv_at hl 0 rfl) ?_
        refine lv_iload_n hx hb dX0_wouldTrespass_43 rfl (lv_at hl 2 rfl) ?_
        refine lv_icmp_eq (tgt := 51) hx hb dX0_wouldTrespass_44 (by decide) (fun c10 => ?_) (fun c10 => ?_)
        · rw [if_pos c10] at h
          refine lv_iconst (v := 0) hx hb dX0_wouldTrespass_51 (by decide) ?_
          exact R_zret C hr hd h dX0_wouldTrespass_52
        · rw [if_neg c10] at h
          refine lv_iconst (v := 1) hx hb dX0_wouldTrespass_47 (by decide) ?_
          refine lv_goto (tgt := 52) hx hb dX0_wouldTrespass_48 (by decide) ?_
          exact R_zret C hr hd h dX0_wouldTrespass_52
set_option maxRecDepth 20000 in
theorem ccX0_wouldTrespass (l : Launch) (G : Gt) {a1 : Int32} {a2 : Int32} {S : St} {res : (Int32 × St)}  (h : fX0_wouldTrespass a1 a2 S = some res) : Met l yX0_wouldTrespass (wm yX0_wouldTrespass cX0_wouldTrespass 4 (some .boolean)) (rmL 3 0 0) (PcW G S [.ref (gR G 130), .int a1, .int a2]) (QI G res.1 res.2) 0 0 (Ab G) := by
  refine Met.ofW (cc := cX0_wouldTrespass) (maxL := 4) (ret := (some .boolean)) (by decide) rfl ?_
  intro p e s m args below meth c s₁ B hml hv
  obtain ⟨rfl, hK, hP⟩ := hv
  have C : Cx p s m _ meth c cX0_wouldTrespass 4 RX0 G := ⟨⟨B.exec, B.bytes, hml, findClass_of_methodNamed B.named, fun w hw => atoms_spec (ws := wm yX0_wouldTrespass cX0_wouldTrespass 4 (some .boolean)) B.pre w (List.mem_cons_of_mem _ hw)⟩, B.notSynchronized, hK⟩
  have hl := lv_entry ([.ref (gR G 130), .int a1, .int a2]) (n := 4) (Nat.le_of_ble_eq_true rfl)
  rw [lg_entry_eq]
  generalize (lg_sl ([.ref (gR G 130), .int a1, .int a2]) ++ List.replicate (4 - (lg_sl ([.ref (gR G 130), .int a1, .int a2])).length) Slot.unset).toArray = ls at hl ⊢
  exact sfX0_wouldTrespass C B.returns  ⟨hP, va_S.rf⟩ hl h
def fX0_letSing (a1 : Int32) (a2 : Int32) (S : St) : Option St :=
  rd S 132 a1 fun x2 => bd (fX0_spread x2 a2 a1 S) fun x3 S => vl ((14 + (a1 * 8)) + a2) fun x4 => bd (fX0_wouldTrespass a1 a2 S) fun x5 S => (if x5 = 0 then rd S 132 a1 fun x8 => (if a2 = x8 then some S else rd S 131 x4 fun x11 => (if x11 ≤ 0 then some S else rd S 131 x4 fun x14 => wr S 131 x4 (x14 - 1) fun S => some S)) else bd (fX0_fineOf a1 a2 x3 S) fun x15 S => rd S 131 (98 + a2) fun x17 => rd S 131 (8 + a1) fun x20 => vl (if (-9999) < (x20 - x15) then x20 - x15 else (-9999)) fun x21 => wr S 131 (8 + a1) x21 fun S => rd S 131 (8 + x17) fun x24 => vl (if (x24 + x15) < 9999 then x24 + x15 else 9999) fun x25 => wr S 131 (8 + x17) x25 fun S => rd S 131 1 fun x27 => wr S 131 1 (x27 + 1) fun S => rd S 134 a1 fun x29 => wr S 134 a1 (x29 + 1) fun S => rd S 135 a2 fun x31 => wr S 135 a2 (x31 + 1) fun S => some S)
set_option maxHeartbeats 4000000 in
set_option maxRecDepth 20000 in
theorem sfX0_letSing (C : Cx p s m args meth c cX0_letSing 7 RX0 G) (hr : meth.sig.returnType = none) {a1 : Int32} {a2 : Int32} {S : St} {res : St} {H : Heap} {locs : List Loc} {ls : Array Slot}  (hd : Dy G S s H locs) (hl : lv_has ls 7 [(0, .ref (gR G 130)), (1, .int a1), (2, .int a2)]) (h : fX0_letSing a1 a2 S = some res) : W p l e (rmL 5 0 0) s m args below meth c H locs 0 0 (MQ below (QV G res) args s 0 0 (Ab G)) (F0 m 0 ls []) := by
  unfold fX0_letSing at h
  have hx := C.1.1
  have hb := C.1.2.1
  refine lv_aload_n hx hb dX0_letSing_0 rfl (lv_at hl 0 rfl) ?_
  refine lv_aload_n hx hb dX0_letSing_1 rfl (lv_at hl 0 rfl) ?_
  refine gX0_15 C hd (rfl : kd 130 = 0) (q := 132) rfl dX0_letSing_2 (fun y1 => ?_)
  refine lv_iload_n hx hb dX0_letSing_5 rfl (lv_at hl 1 rfl) ?_
  refine R_iald C hd y1 h dX0_letSing_6 (fun x2 h => ?_)
  refine lv_iload_n hx hb dX0_letSing_7 rfl (lv_at hl 2 rfl) ?_
  refine lv_iload_n hx hb dX0_letSing_8 rfl (lv_at hl 1 rfl) ?_
  obtain ⟨x3, S1, hc, h⟩ := bd_some h
  refine R_cVi C hd (ccX0_spread l G  hc) kX0_98 rfl (by decide) (rfl : kd 130 = 0) hl.1 ⟨by decide, by decide⟩ rfl rfl (Nat.le_of_ble_eq_true rfl) dX0_letSing_9 ⟨Nat.zero_le _, Nat.zero_le _⟩ (fun H locs hd => ?_)
  generalize S1 = S at h hd
  refine lv_istore_n (lv' := [(3, .int x3), (0, .ref (gR G 130)), (1, .int a1), (2, .int a2)]) hx hb dX0_letSing_12 rfl hl (by decide) rfl (fun ls hl => ?_)
  refine lv_bipush (v := 14) hx hb dX0_letSing_13 (by decide) ?_
  refine lv_iload_n hx hb dX0_letSing_15 rfl (lv_at hl 2 rfl) ?_
  refine lv_bipush (v := 8) hx hb dX0_letSing_16 (by decide) ?_
  refine lv_imul hx hb dX0_letSing_18 ?_
  refine lv_iadd hx hb dX0_letSing_19 ?_
  refine lv_iload_n hx hb dX0_letSing_20 rfl (lv_at hl 3 rfl) ?_
  refine lv_iadd hx hb dX0_letSing_21 ?_
  refine R_vl h (fun x4 h => ?_)
  refine lv_istore (lv' := [(4, .int x4), (3, .int x3), (0, .ref (gR G 130)), (1, .int a1), (2, .int a2)]) hx hb dX0_letSing_22 hl (by decide) rfl (fun ls hl => ?_)
  refine lv_aload_n hx hb dX0_letSing_24 rfl (lv_at hl 2 rfl) ?_
  refine lv_iload_n hx hb dX0_letSing_25 rfl (lv_at hl 3 rfl) ?_
  refine lv_iload_n hx hb dX0_letSing_26 rfl (lv_at hl 4 rfl) ?_
  obtain ⟨x5, S1, hc, h⟩ := bd_some h
  refine R_cVi C hd (ccX0_wouldTrespass l G  hc) kX0_102 rfl (by decide) (rfl : kd 130 = 0) hl.1 ⟨by decide, by decide⟩ rfl rfl (Nat.le_of_ble_eq_true rfl) dX0_letSing_27 ⟨Nat.zero_le _, Nat.zero_le _⟩ (fun H locs hd => ?_)
  generalize S1 = S at h hd
  refine lv_if_eq (tgt := 142) hx hb dX0_letSing_30 (by decide) (fun c6 => ?_) (fun c6 => ?_)
  · rw [if_pos c6] at h
    refine lv_iload_n hx hb dX0_letSing_142 rfl (lv_at hl 4 rfl) ?_
    refine lv_aload_n hx hb dX0_letSing_143 rfl (lv_at hl 2 rfl) ?_
    refine gX0_15 C hd (rfl : kd 130 = 0) (q := 132) rfl dX0_letSing_144 (fun y7 => ?_)
    refine lv_iload_n hx hb dX0_letSing_147 rfl (lv_at hl 3 rfl) ?_
    refine R_iald C hd y7 h dX0_letSing_148 (fun x8 h => ?_)
    refine lv_icmp_eq (tgt := 173) hx hb dX0_letSing_149 (by decide) (fun c9 => ?_) (fun c9 => ?_)
    · rw [if_pos c9] at h
      exact R_vret C hr hd h dX0_letSing_173
    · rw [if_neg c9] at h
      refine lv_aload_n hx hb dX0_letSing_152 rfl (lv_at hl 2 rfl) ?_
      refine gX0_9 C hd (rfl : kd 130 = 0) (q := 131) rfl dX0_letSing_153 (fun y10 => ?_)
      refine lv_iload hx hb dX0_letSing_156 (lv_at hl 0 rfl) ?_
      refine R_iald C hd y10 h dX0_letSing_158 (fun x11 h => ?_)
      refine lv_if_le (tgt := 173) hx hb dX0_letSing_159 (by decide) (fun c12 => ?_) (fun c12 => ?_)
      · rw [if_pos c12] at h
        exact R_vret C hr hd h dX0_letSing_173
      · rw [if_neg c12] at h
        refine lv_aload_n hx hb dX0_letSing_162 rfl (lv_at hl 2 rfl) ?_
        refine gX0_9 C hd (rfl : kd 130 = 0) (q := 131) rfl dX0_letSing_163 (fun y13 => ?_)
        refine lv_iload hx hb dX0_letSing_166 (lv_at hl 0 rfl) ?_
        refine lv_dup2_11 hx hb dX0_letSing_168 rfl rfl ?_
        refine R_iald C hd y13 h dX0_letSing_169 (fun x14 h => ?_)
        refine lv_iconst (v := 1) hx hb dX0_letSing_170 (by decide) ?_
        refine lv_isub hx hb dX0_letSing_171 ?_
        refine R_iast C hd y13 h dX0_letSing_172 (fun S H locs hd h => ?_)
        exact R_vret C hr hd h dX0_letSing_173
  · rw [if_neg c6] at h
    refine lv_aload_n hx hb dX0_letSing_33 rfl (lv_at hl 2 rfl) ?_
    refine lv_iload_n hx hb dX0_letSing_34 rfl (lv_at hl 3 rfl) ?_
    refine lv_iload_n hx hb dX0_letSing_35 rfl (lv_at hl 4 rfl) ?_
    refine lv_iload_n hx hb dX0_letSing_36 rfl (lv_at hl 1 rfl) ?_
    obtain ⟨x15, S1, hc, h⟩ := bd_some h
    refine R_cVi C hd (ccX0_fineOf l G  hc) kX0_106 rfl (by decide) (rfl : kd 130 = 0) hl.1 ⟨by decide, by decide⟩ rfl rfl (Nat.le_of_ble_eq_true rfl) dX0_letSing_37 ⟨Nat.zero_le _, Nat.zero_le _⟩ (fun H locs hd => ?_)
    generalize S1 = S at h hd
    refine lv_istore (lv' := [(5, .int x15), (4, .int x4), (3, .int x3), (0, .ref (gR G 130)), (1, .int a1), (2, .int a2)]) hx hb dX0_letSing_40 hl (by decide) rfl (fun ls hl => ?_)
    refine lv_aload_n hx hb dX0_letSing_42 rfl (lv_at hl 3 rfl) ?_
    refine gX0_9 C hd (rfl : kd 130 = 0) (q := 131) rfl dX0_letSing_43 (fun y16 => ?_)
    refine lv_bipush (v := 98) hx hb dX0_letSing_46 (by decide) ?_
    refine lv_iload_n hx hb dX0_letSing_48 rfl (lv_at hl 5 rfl) ?_
    refine lv_iadd hx hb dX0_letSing_49 ?_
    refine R_iald C hd y16 h dX0_letSing_50 (fun x17 h => ?_)
    refine lv_istore (lv' := [(6, .int x17), (5, .int x15), (4, .int x4), (3, .int x3), (0, .ref (gR G 130)), (1, .int a1), (2, .int a2)]) hx hb dX0_letSing_51 hl (by decide) rfl (fun ls hl => ?_)
    refine lv_aload_n hx hb dX0_letSing_53 rfl (lv_at hl 4 rfl) ?_
    refine gX0_9 C hd (rfl : kd 130 = 0) (q := 131) rfl dX0_letSing_54 (fun y18 => ?_)
    refine lv_bipush (v := 8) hx hb dX0_letSing_57 (by decide) ?_
    refine lv_iload_n hx hb dX0_letSing_59 rfl (lv_at hl 5 rfl) ?_
    refine lv_iadd hx hb dX0_letSing_60 ?_
    refine lv_sipush (v := -9999) hx hb dX0_letSing_61 (by decide) ?_
    refine lv_aload_n hx hb dX0_letSing_64 rfl (lv_at hl 4 rfl) ?_
    refine gX0_9 C hd (rfl : kd 130 = 0) (q := 131) rfl dX0_letSing_65 (fun y19 => ?_)
    refine lv_bipush (v := 8) hx hb dX0_letSing_68 (by decide) ?_
    refine lv_iload_n hx hb dX0_letSing_70 rfl (lv_at hl 5 rfl) ?_
    refine lv_iadd hx hb dX0_letSing_71 ?_
    refine R_iald C hd y19 h dX0_letSing_72 (fun x20 h => ?_)
    refine lv_iload hx hb dX0_letSing_73 (lv_at hl 1 rfl) ?_
    refine lv_isub hx hb dX0_letSing_75 ?_
    refine R_mmax C hl.1 kmX0_109 (Nat.le_of_ble_eq_true rfl) (Nat.le_of_ble_eq_true rfl) (Nat.le_of_ble_eq_true rfl) (Nat.le_of_ble_eq_true rfl) dX0_letSing_76 ?_
    refine R_vl h (fun x21 h => ?_)
    refine R_iast C hd y18 h dX0_letSing_79 (fun S H locs hd h => ?_)
    refine lv_aload_n hx hb dX0_letSing_80 rfl (lv_at hl 4 rfl) ?_
    refine gX0_9 C hd (rfl : kd 130 = 0) (q := 131) rfl dX0_letSing_81 (fun y22 => ?_)
    refine lv_bipush (v := 8) hx hb dX0_letSing_84 (by decide) ?_
    refine lv_iload hx hb dX0_letSing_86 (lv_at hl 0 rfl) ?_
    refine lv_iadd hx hb dX0_letSing_88 ?_
    refine lv_sipush (v := 9999) hx hb dX0_letSing_89 (by decide) ?_
    refine lv_aload_n hx hb dX0_letSing_92 rfl (lv_at hl 4 rfl) ?_
    refine gX0_9 C hd (rfl : kd 130 = 0) (q := 131) rfl dX0_letSing_93 (fun y23 => ?_)
    refine lv_bipush (v := 8) hx hb dX0_letSing_96 (by decide) ?_
    refine lv_iload hx hb dX0_letSing_98 (lv_at hl 0 rfl) ?_
    refine lv_iadd hx hb dX0_letSing_100 ?_
    refine R_iald C hd y23 h dX0_letSing_101 (fun x24 h => ?_)
    refine lv_iload hx hb dX0_letSing_102 (lv_at hl 1 rfl) ?_
    refine lv_iadd hx hb dX0_letSing_104 ?_
    refine R_mmin C hl.1 kmX0_112 (Nat.le_of_ble_eq_true rfl) (Nat.le_of_ble_eq_true rfl) (Nat.le_of_ble_eq_true rfl) (Nat.le_of_ble_eq_true rfl) dX0_letSing_105 ?_
    refine R_vl h (fun x25 h => ?_)
    refine R_iast C hd y22 h dX0_letSing_108 (fun S H locs hd h => ?_)
    refine lv_aload_n hx hb dX0_letSing_109 rfl (lv_at hl 4 rfl) ?_
    refine gX0_9 C hd (rfl : kd 130 = 0) (q := 131) rfl dX0_letSing_110 (fun y26 => ?_)
    refine lv_iconst (v := 1) hx hb dX0_letSing_113 (by decide) ?_
    refine lv_dup2_11 hx hb dX0_letSing_114 rfl rfl ?_
    refine R_iald C hd y26 h dX0_letSing_115 (fun x27 h => ?_)
    refine lv_iconst (v := 1) hx hb dX0_letSing_116 (by decide) ?_
    refine lv_iadd hx hb dX0_letSing_117 ?_
    refine R_iast C hd y26 h dX0_letSing_118 (fun S H locs hd h => ?_)
    refine lv_aload_n hx hb dX0_letSing_119 rfl (lv_at hl 4 rfl) ?_
    refine gX0_21 C hd (rfl : kd 130 = 0) (q := 134) rfl dX0_letSing_120 (fun y28 => ?_)
    refine lv_iload_n hx hb dX0_letSing_123 rfl (lv_at hl 5 rfl) ?_
    refine lv_dup2_11 hx hb dX0_letSing_124 rfl rfl ?_
    refine R_iald C hd y28 h dX0_letSing_125 (fun x29 h => ?_)
    refine lv_iconst (v := 1) hx hb dX0_letSing_126 (by decide) ?_
    refine lv_iadd hx hb dX0_letSing_127 ?_
    refine R_iast C hd y28 h dX0_letSing_128 (fun S H locs hd h => ?_)
    refine lv_aload_n hx hb dX0_letSing_129 rfl (lv_at hl 4 rfl) ?_
    refine gX0_24 C hd (rfl : kd 130 = 0) (q := 135) rfl dX0_letSing_130 (fun y30 => ?_)
    refine lv_iload_n hx hb dX0_letSing_133 rfl (lv_at hl 6 rfl) ?_
    refine lv_dup2_11 hx hb dX0_letSing_134 rfl rfl ?_
    refine R_iald C hd y30 h dX0_letSing_135 (fun x31 h => ?_)
    refine lv_iconst (v := 1) hx hb dX0_letSing_136 (by decide) ?_
    refine lv_iadd hx hb dX0_letSing_137 ?_
    refine R_iast C hd y30 h dX0_letSing_138 (fun S H locs hd h => ?_)
    refine lv_goto (tgt := 173) hx hb dX0_letSing_139 (by decide) ?_
    exact R_vret C hr hd h dX0_letSing_173
set_option maxRecDepth 20000 in
theorem ccX0_letSing (l : Launch) (G : Gt) {a1 : Int32} {a2 : Int32} {S : St} {res : St}  (h : fX0_letSing a1 a2 S = some res) : Met l yX0_letSing (wm yX0_letSing cX0_letSing 7 (none)) (rmL 5 0 0) (PcW G S [.ref (gR G 130), .int a1, .int a2]) (QV G res) 0 0 (Ab G) := by
  refine Met.ofW (cc := cX0_letSing) (maxL := 7) (ret := none) (by decide) rfl ?_
  intro p e s m args below meth c s₁ B hml hv
  obtain ⟨rfl, hK, hP⟩ := hv
  have C : Cx p s m _ meth c cX0_letSing 7 RX0 G := ⟨⟨B.exec, B.bytes, hml, findClass_of_methodNamed B.named, fun w hw => atoms_spec (ws := wm yX0_letSing cX0_letSing 7 (none)) B.pre w (List.mem_cons_of_mem _ hw)⟩, B.notSynchronized, hK⟩
  have hl := lv_entry ([.ref (gR G 130), .int a1, .int a2]) (n := 7) (Nat.le_of_ble_eq_true rfl)
  rw [lg_entry_eq]
  generalize (lg_sl ([.ref (gR G 130), .int a1, .int a2]) ++ List.replicate (7 - (lg_sl ([.ref (gR G 130), .int a1, .int a2])).length) Slot.unset).toArray = ls at hl ⊢
  exact sfX0_letSing C B.returns  ⟨hP, va_S.rf⟩ hl h
def BX0_tuneOf_118 (l1 : Int32) (l2 : Int32) (S : St) : Option (Int32 × St) :=
  rd S 131 (2 + l1) fun x2 => (if ((x2 >>> (l2 &&& 31)) &&& 1) = 0 then ri ((-1)) S else ri l2 S)
set_option maxHeartbeats 4000000 in
set_option maxRecDepth 20000 in
theorem sBX0_tuneOf_118 (C : Cx p s m args meth c cX0_tuneOf 3 RX0 G) (hr : meth.sig.returnType = some .int) {l1 : Int32} {l2 : Int32} {S : St} {res : (Int32 × St)} {H : Heap} {locs : List Loc} {ls : Array Slot}  (hd : Dy G S s H locs) (hl : lv_has ls 3 [(0, .ref (gR G 130)), (1, .int l1), (2, .int l2)]) (h : BX0_tuneOf_118 l1 l2 S = some res) : W p l e (rmL 4 0 0) s m args below meth c H locs 0 0 (MQ below (QI G res.1 res.2) args s 0 0 (Ab G)) (F0 m 118 ls []) := by
  unfold BX0_tuneOf_118 at h
  have hx := C.1.1
  have hb := C.1.2.1
  refine lv_aload_n hx hb dX0_tuneOf_118 rfl (lv_at hl 0 rfl) ?_
  refine gX0_9 C hd (rfl : kd 130 = 0) (q := 131) rfl dX0_tuneOf_119 (fun y1 => ?_)
  refine lv_iconst (v := 2) hx hb dX0_tuneOf_122 (by decide) ?_
  refine lv_iload_n hx hb dX0_tuneOf_123 rfl (lv_at hl 1 rfl) ?_
  refine lv_iadd hx hb dX0_tuneOf_124 ?_
  refine R_iald C hd y1 h dX0_tuneOf_125 (fun x2 h => ?_)
  refine lv_iload_n hx hb dX0_tuneOf_126 rfl (lv_at hl 2 rfl) ?_
  refine lv_ishr hx hb dX0_tuneOf_127 ?_
  refine lv_iconst (v := 1) hx hb dX0_tuneOf_128 (by decide) ?_
  refine lv_iand hx hb dX0_tuneOf_129 ?_
  refine lv_if_eq (tgt := 137) hx hb dX0_tuneOf_130 (by decide) (fun c3 => ?_) (fun c3 => ?_)
  · rw [if_pos c3] at h
    refine lv_iconst (v := -1) hx hb dX0_tuneOf_137 (by decide) ?_
    exact R_iret C hr hd h dX0_tuneOf_138
  · rw [if_neg c3] at h
    refine lv_iload_n hx hb dX0_tuneOf_133 rfl (lv_at hl 2 rfl) ?_
    refine lv_goto (tgt := 138) hx hb dX0_tuneOf_134 (by decide) ?_
    exact R_iret C hr hd h dX0_tuneOf_138
def fX0_tuneOf (a1 : Int32) (S : St) : Option (Int32 × St) :=
  rd S 132 a1 fun x2 => gm S 130 0 8 fun q3 => (if (S (sr q3 12) 0) = 0 then (BX0_tuneOf_118 a1 x2 S) else gm S 130 0 8 fun q6 => (if (S q6 0) ≤ 0 then (BX0_tuneOf_118 a1 x2 S) else rd S 131 0 fun x10 => wr S 136 0 x10 fun S => wr S 136 1 a1 fun S => rd S 132 a1 fun x14 => wr S 136 2 x14 fun S => rd S 131 (2 + a1) fun x17 => bd (fJ6_bitCount_0f7a4 x17 S) fun x18 S => wr S 136 3 x18 fun S => rd S 131 (8 + a1) fun x21 => wr S 136 4 x21 fun S => gm S 130 0 8 fun q22 => bd (fX3_answer (sr q22 12) 136 S) fun x25 S => gm S 130 0 8 fun q26 => bd (fJ9_floorMod_7cf53 x25 (S q26 0) S) fun x27 S => (BX0_tuneOf_118 a1 x27 S)))
set_option maxHeartbeats 4000000 in
set_option maxRecDepth 20000 in
theorem sfX0_tuneOf (C : Cx p s m args meth c cX0_tuneOf 3 RX0 G) (hr : meth.sig.returnType = some .int) {a1 : Int32} {S : St} {res : (Int32 × St)} {H : Heap} {locs : List Loc} {ls : Array Slot}  (hd : Dy G S s H locs) (hl : lv_has ls 3 [(0, .ref (gR G 130)), (1, .int a1)]) (h : fX0_tuneOf a1 S = some res) : W p l e (rmL 4 0 0) s m args below meth c H locs 0 0 (MQ below (QI G res.1 res.2) args s 0 0 (Ab G)) (F0 m 0 ls []) := by
  unfold fX0_tuneOf at h
  have hx := C.1.1
  have hb := C.1.2.1
  refine lv_aload_n hx hb dX0_tuneOf_0 rfl (lv_at hl 0 rfl) ?_
  refine gX0_15 C hd (rfl : kd 130 = 0) (q := 132) rfl dX0_tuneOf_1 (fun y1 => ?_)
  refine lv_iload_n hx hb dX0_tuneOf_4 rfl (lv_at hl 1 rfl) ?_
  refine R_iald C hd y1 h dX0_tuneOf_5 (fun x2 h => ?_)
  refine lv_istore_n (lv' := [(2, .int x2), (0, .ref (gR G 130)), (1, .int a1)]) hx hb dX0_tuneOf_6 rfl hl (by decide) rfl (fun ls hl => ?_)
  refine lv_aload_n hx hb dX0_tuneOf_7 rfl (lv_at hl 1 rfl) ?_
  refine gX0_30 C hd (rfl : kd 130 = 0) h dX0_tuneOf_8 (fun q3 kq3 h => ?_)
  refine gX0_70 C hd kq3 (q := sr q3 12) rfl dX0_tuneOf_11 (fun y4 => ?_)
  refine gX0_74 C hd y4 dX0_tuneOf_14 ?_
  refine lv_if_eq (tgt := 118) hx hb dX0_tuneOf_17 (by decide) (fun c5 => ?_) (fun c5 => ?_)
  · rw [if_pos c5] at h
    exact sBX0_tuneOf_118 C hr  hd (lv_sub hl [1, 2, 0] rfl) h
  · rw [if_neg c5] at h
    refine lv_aload_n hx hb dX0_tuneOf_20 rfl (lv_at hl 1 rfl) ?_
    refine gX0_30 C hd (rfl : kd 130 = 0) h dX0_tuneOf_21 (fun q6 kq6 h => ?_)
    refine gX0_80 C hd kq6 dX0_tuneOf_24 ?_
    refine lv_if_le (tgt := 118) hx hb dX0_tuneOf_27 (by decide) (fun c7 => ?_) (fun c7 => ?_)
    · rw [if_pos c7] at h
      exact sBX0_tuneOf_118 C hr  hd (lv_sub hl [1, 2, 0] rfl) h
    · rw [if_neg c7] at h
      refine lv_aload_n hx hb dX0_tuneOf_30 rfl (lv_at hl 1 rfl) ?_
      refine gX0_27 C hd (rfl : kd 130 = 0) (q := 136) rfl dX0_tuneOf_31 (fun y8 => ?_)
      refine lv_iconst (v := 0) hx hb dX0_tuneOf_34 (by decide) ?_
      refine lv_aload_n hx hb dX0_tuneOf_35 rfl (lv_at hl 1 rfl) ?_
      refine gX0_9 C hd (rfl : kd 130 = 0) (q := 131) rfl dX0_tuneOf_36 (fun y9 => ?_)
      refine lv_iconst (v := 0) hx hb dX0_tuneOf_39 (by decide) ?_
      refine R_iald C hd y9 h dX0_tuneOf_40 (fun x10 h => ?_)
      refine R_iast C hd y8 h dX0_tuneOf_41 (fun S H locs hd h => ?_)
      refine lv_aload_n hx hb dX0_tuneOf_42 rfl (lv_at hl 1 rfl) ?_
      refine gX0_27 C hd (rfl : kd 130 = 0) (q := 136) rfl dX0_tuneOf_43 (fun y11 => ?_)
      refine lv_iconst (v := 1) hx hb dX0_tuneOf_46 (by decide) ?_
      refine lv_iload_n hx hb dX0_tuneOf_47 rfl (lv_at hl 2 rfl) ?_
      refine R_iast C hd y11 h dX0_tuneOf_48 (fun S H locs hd h => ?_)
      refine lv_aload_n hx hb dX0_tuneOf_49 rfl (lv_at hl 1 rfl) ?_
      refine gX0_27 C hd (rfl : kd 130 = 0) (q := 136) rfl dX0_tuneOf_50 (fun y12 => ?_)
      refine lv_iconst (v := 2) hx hb dX0_tuneOf_53 (by decide) ?_
      refine lv_aload_n hx hb dX0_tuneOf_54 rfl (lv_at hl 1 rfl) ?_
      refine gX0_15 C hd (rfl : kd 130 = 0) (q := 132) rfl dX0_tuneOf_55 (fun y13 => ?_)
      refine lv_iload_n hx hb dX0_tuneOf_58 rfl (lv_at hl 2 rfl) ?_
      refine R_iald C hd y13 h dX0_tuneOf_59 (fun x14 h => ?_)
      refine R_iast C hd y12 h dX0_tuneOf_60 (fun S H locs hd h => ?_)
      refine lv_aload_n hx hb dX0_tuneOf_61 rfl (lv_at hl 1 rfl) ?_
      refine gX0_27 C hd (rfl : kd 130 = 0) (q := 136) rfl dX0_tuneOf_62 (fun y15 => ?_)
      refine lv_iconst (v := 3) hx hb dX0_tuneOf_65 (by decide) ?_
      refine lv_aload_n hx hb dX0_tuneOf_66 rfl (lv_at hl 1 rfl) ?_
      refine gX0_9 C hd (rfl : kd 130 = 0) (q := 131) rfl dX0_tuneOf_67 (fun y16 => ?_)
      refine lv_iconst (v := 2) hx hb dX0_tuneOf_70 (by decide) ?_
      refine lv_iload_n hx hb dX0_tuneOf_71 rfl (lv_at hl 2 rfl) ?_
      refine lv_iadd hx hb dX0_tuneOf_72 ?_
      refine R_iald C hd y16 h dX0_tuneOf_73 (fun x17 h => ?_)
      obtain ⟨x18, S1, hc, h⟩ := bd_some h
      refine R_cSi C hd (ccJ6_bitCount_0f7a4 l G  hc) kX0_83  hl.1 ⟨by decide, by decide⟩ rfl rfl (Nat.le_of_ble_eq_true rfl) dX0_tuneOf_74 ⟨Nat.zero_le _, Nat.zero_le _⟩ (fun H locs hd => ?_)
      generalize S1 = S at h hd
      refine R_iast C hd y15 h dX0_tuneOf_77 (fun S H locs hd h => ?_)
      refine lv_aload_n hx hb dX0_tuneOf_78 rfl (lv_at hl 1 rfl) ?_
      refine gX0_27 C hd (rfl : kd 130 = 0) (q := 136) rfl dX0_tuneOf_79 (fun y19 => ?_)
      refine lv_iconst (v := 4) hx hb dX0_tuneOf_82 (by decide) ?_
      refine lv_aload_n hx hb dX0_tuneOf_83 rfl (lv_at hl 1 rfl) ?_
      refine gX0_9 C hd (rfl : kd 130 = 0) (q := 131) rfl dX0_tuneOf_84 (fun y20 => ?_)
      refine lv_bipush (v := 8) hx hb dX0_tuneOf_87 (by decide) ?_
      refine lv_iload_n hx hb dX0_tuneOf_89 rfl (lv_at hl 2 rfl) ?_
      refine lv_iadd hx hb dX0_tuneOf_90 ?_
      refine R_iald C hd y20 h dX0_tuneOf_91 (fun x21 h => ?_)
      refine R_iast C hd y19 h dX0_tuneOf_92 (fun S H locs hd h => ?_)
      refine lv_aload_n hx hb dX0_tuneOf_93 rfl (lv_at hl 1 rfl) ?_
      refine gX0_30 C hd (rfl : kd 130 = 0) h dX0_tuneOf_94 (fun q22 kq22 h => ?_)
      refine gX0_70 C hd kq22 (q := sr q22 12) rfl dX0_tuneOf_97 (fun y23 => ?_)
      refine lv_aload_n hx hb dX0_tuneOf_100 rfl (lv_at hl 1 rfl) ?_
      refine gX0_27 C hd (rfl : kd 130 = 0) (q := 136) rfl dX0_tuneOf_101 (fun y24 => ?_)
      obtain ⟨x25, S1, hc, h⟩ := bd_some h
      refine R_cVi C hd (ccX3_answer l G y23 y24 hc) kX0_88 rfl (by decide) y23 hl.1 ⟨by decide, by decide⟩ rfl rfl (Nat.le_of_ble_eq_true rfl) dX0_tuneOf_104 ⟨Nat.zero_le _, Nat.zero_le _⟩ (fun H locs hd => ?_)
      generalize S1 = S at h hd
      refine lv_aload_n hx hb dX0_tuneOf_107 rfl (lv_at hl 1 rfl) ?_
      refine gX0_30 C hd (rfl : kd 130 = 0) h dX0_tuneOf_108 (fun q26 kq26 h => ?_)
      refine gX0_80 C hd kq26 dX0_tuneOf_111 ?_
      obtain ⟨x27, S1, hc, h⟩ := bd_some h
      refine R_cSi C hd (ccJ9_floorMod_7cf53 l G  hc) kX0_92  hl.1 ⟨by decide, by decide⟩ rfl rfl (Nat.le_of_ble_eq_true rfl) dX0_tuneOf_114 ⟨Nat.zero_le _, Nat.zero_le _⟩ (fun H locs hd => ?_)
      generalize S1 = S at h hd
      refine lv_istore_n (lv' := [(2, .int x27), (0, .ref (gR G 130)), (1, .int a1)]) hx hb dX0_tuneOf_117 rfl hl (by decide) rfl (fun ls hl => ?_)
      exact sBX0_tuneOf_118 C hr  hd (lv_sub hl [1, 2, 0] rfl) h
set_option maxRecDepth 20000 in
theorem ccX0_tuneOf (l : Launch) (G : Gt) {a1 : Int32} {S : St} {res : (Int32 × St)}  (h : fX0_tuneOf a1 S = some res) : Met l yX0_tuneOf (wm yX0_tuneOf cX0_tuneOf 3 (some .int)) (rmL 4 0 0) (PcW G S [.ref (gR G 130), .int a1]) (QI G res.1 res.2) 0 0 (Ab G) := by
  refine Met.ofW (cc := cX0_tuneOf) (maxL := 3) (ret := (some .int)) (by decide) rfl ?_
  intro p e s m args below meth c s₁ B hml hv
  obtain ⟨rfl, hK, hP⟩ := hv
  have C : Cx p s m _ meth c cX0_tuneOf 3 RX0 G := ⟨⟨B.exec, B.bytes, hml, findClass_of_methodNamed B.named, fun w hw => atoms_spec (ws := wm yX0_tuneOf cX0_tuneOf 3 (some .int)) B.pre w (List.mem_cons_of_mem _ hw)⟩, B.notSynchronized, hK⟩
  have hl := lv_entry ([.ref (gR G 130), .int a1]) (n := 3) (Nat.le_of_ble_eq_true rfl)
  rw [lg_entry_eq]
  generalize (lg_sl ([.ref (gR G 130), .int a1]) ++ List.replicate (3 - (lg_sl ([.ref (gR G 130), .int a1])).length) Slot.unset).toArray = ls at hl ⊢
  exact sfX0_tuneOf C B.returns  ⟨hP, va_S.rf⟩ hl h
def BX0_goHour_49 (r6 : Int32 → St → Option St) (l1 : Int32) (S : St) : Option St :=
  vl (l1 + 1) fun x1 => (r6 x1 S)
set_option maxHeartbeats 4000000 in
set_option maxRecDepth 20000 in
theorem sBX0_goHour_49 (C : Cx p s m args meth c cX0_goHour 2 RX0 G) (hr : meth.sig.returnType = none) {r6 : Int32 → St → Option St} (hr6 : ∀ (l1 : Int32) (S : St) (res : St) (H : Heap) (locs : List Loc) (ls : Array Slot), Dy G S s H locs → lv_has ls 2 [(0, .ref (gR G 130)), (1, .int l1)] → r6 l1 S = some res → W p l e (rmL 6 0 0) s m args below meth c H locs 0 0 (MQ below (QV G res) args s 0 0 (Ab G)) (F0 m 6 ls [])) {l1 : Int32} {S : St} {res : St} {H : Heap} {locs : List Loc} {ls : Array Slot}  (hd : Dy G S s H locs) (hl : lv_has ls 2 [(0, .ref (gR G 130)), (1, .int l1)]) (h : BX0_goHour_49 r6 l1 S = some res) : W p l e (rmL 6 0 0) s m args below meth c H locs 0 0 (MQ below (QV G res) args s 0 0 (Ab G)) (F0 m 49 ls []) := by
  unfold BX0_goHour_49 at h
  have hx := C.1.1
  have hb := C.1.2.1
  refine R_vi h (fun x1 ex1 h => ?_)
  refine lv_iinc (v := x1) (lv' := [(1, .int x1), (0, .ref (gR G 130))]) hx hb dX0_goHour_49 hl (k := 1) rfl (by rw [ex1]; rfl) (by decide) rfl (fun ls hl => ?_)
  refine lv_goto (tgt := 6) hx hb dX0_goHour_52 (by decide) ?_
  exact hr6 x1 _ _ _ _ _  hd (lv_sub hl [1, 0] rfl) h
def KX0_goHour_6 (r6 : Int32 → St → Option St) (l1 : Int32) (S : St) : Option St :=
  gm S 130 0 8 fun q1 => (if (S q1 2) ≤ l1 then rd S 131 0 fun x4 => wr S 131 0 (x4 + 1) fun S => some S else bd (fX0_tuneOf l1 S) fun x6 S => wr S 133 l1 x6 fun S => rd S 133 l1 fun x8 => (if x8 = (-1) then (BX0_goHour_49 r6 l1 S) else rd S 133 l1 fun x11 => bv (fX0_letSing l1 x11 S) fun S => (BX0_goHour_49 r6 l1 S)))
set_option maxHeartbeats 4000000 in
set_option maxRecDepth 20000 in
theorem sKX0_goHour_6 (C : Cx p s m args meth c cX0_goHour 2 RX0 G) (hr : meth.sig.returnType = none) {r6 : Int32 → St → Option St} (hr6 : ∀ (l1 : Int32) (S : St) (res : St) (H : Heap) (locs : List Loc) (ls : Array Slot), Dy G S s H locs → lv_has ls 2 [(0, .ref (gR G 130)), (1, .int l1)] → r6 l1 S = some res → W p l e (rmL 6 0 0) s m args below meth c H locs 0 0 (MQ below (QV G res) args s 0 0 (Ab G)) (F0 m 6 ls [])) {l1 : Int32} {S : St} {res : St} {H : Heap} {locs : List Loc} {ls : Array Slot}  (hd : Dy G S s H locs) (hl : lv_has ls 2 [(0, .ref (gR G 130)), (1, .int l1)]) (h : KX0_goHour_6 r6 l1 S = some res) : W p l e (rmL 6 0 0) s m args below meth c H locs 0 0 (MQ below (QV G res) args s 0 0 (Ab G)) (F0 m 6 ls []) := by
  unfold KX0_goHour_6 at h
  have hx := C.1.1
  have hb := C.1.2.1
  refine lv_iload_n hx hb dX0_goHour_6 rfl (lv_at hl 1 rfl) ?_
  refine lv_aload_n hx hb dX0_goHour_7 rfl (lv_at hl 0 rfl) ?_
  refine gX0_30 C hd (rfl : kd 130 = 0) h dX0_goHour_8 (fun q1 kq1 h => ?_)
  refine gX0_49 C hd kq1 dX0_goHour_11 ?_
  refine lv_icmp_ge (tgt := 55) hx hb dX0_goHour_14 (by decide) (fun c2 => ?_) (fun c2 => ?_)
  · rw [if_pos c2] at h
    refine lv_aload_n hx hb dX0_goHour_55 rfl (lv_at hl 0 rfl) ?_
    refine gX0_9 C hd (rfl : kd 130 = 0) (q := 131) rfl dX0_goHour_56 (fun y3 => ?_)
    refine lv_iconst (v := 0) hx hb dX0_goHour_59 (by decide) ?_
    refine lv_dup2_11 hx hb dX0_goHour_60 rfl rfl ?_
    refine R_iald C hd y3 h dX0_goHour_61 (fun x4 h => ?_)
    refine lv_iconst (v := 1) hx hb dX0_goHour_62 (by decide) ?_
    refine lv_iadd hx hb dX0_goHour_63 ?_
    refine R_iast C hd y3 h dX0_goHour_64 (fun S H locs hd h => ?_)
    exact R_vret C hr hd h dX0_goHour_65
  · rw [if_neg c2] at h
    refine lv_aload_n hx hb dX0_goHour_17 rfl (lv_at hl 0 rfl) ?_
    refine gX0_18 C hd (rfl : kd 130 = 0) (q := 133) rfl dX0_goHour_18 (fun y5 => ?_)
    refine lv_iload_n hx hb dX0_goHour_21 rfl (lv_at hl 1 rfl) ?_
    refine lv_aload_n hx hb dX0_goHour_22 rfl (lv_at hl 0 rfl) ?_
    refine lv_iload_n hx hb dX0_goHour_23 rfl (lv_at hl 1 rfl) ?_
    obtain ⟨x6, S1, hc, h⟩ := bd_some h
    refine R_cVi C hd (ccX0_tuneOf l G  hc) kX0_62 rfl (by decide) (rfl : kd 130 = 0) hl.1 ⟨by decide, by decide⟩ rfl rfl (Nat.le_of_ble_eq_true rfl) dX0_goHour_24 ⟨Nat.zero_le _, Nat.zero_le _⟩ (fun H locs hd => ?_)
    generalize S1 = S at h hd
    refine R_iast C hd y5 h dX0_goHour_27 (fun S H locs hd h => ?_)
    refine lv_aload_n hx hb dX0_goHour_28 rfl (lv_at hl 0 rfl) ?_
    refine gX0_18 C hd (rfl : kd 130 = 0) (q := 133) rfl dX0_goHour_29 (fun y7 => ?_)
    refine lv_iload_n hx hb dX0_goHour_32 rfl (lv_at hl 1 rfl) ?_
    refine R_iald C hd y7 h dX0_goHour_33 (fun x8 h => ?_)
    refine lv_iconst (v := -1) hx hb dX0_goHour_34 (by decide) ?_
    refine lv_icmp_eq (tgt := 49) hx hb dX0_goHour_35 (by decide) (fun c9 => ?_) (fun c9 => ?_)
    · rw [if_pos c9] at h
      exact sBX0_goHour_49 C hr hr6  hd (lv_sub hl [0, 1] rfl) h
    · rw [if_neg c9] at h
      refine lv_aload_n hx hb dX0_goHour_38 rfl (lv_at hl 0 rfl) ?_
      refine lv_iload_n hx hb dX0_goHour_39 rfl (lv_at hl 1 rfl) ?_
      refine lv_aload_n hx hb dX0_goHour_40 rfl (lv_at hl 0 rfl) ?_
      refine gX0_18 C hd (rfl : kd 130 = 0) (q := 133) rfl dX0_goHour_41 (fun y10 => ?_)
      refine lv_iload_n hx hb dX0_goHour_44 rfl (lv_at hl 1 rfl) ?_
      refine R_iald C hd y10 h dX0_goHour_45 (fun x11 h => ?_)
      obtain ⟨S1, hc, h⟩ := bv_some h
      refine R_cVv C hd (ccX0_letSing l G  hc) kX0_66 rfl (by decide) (rfl : kd 130 = 0) hl.1 ⟨by decide, by decide⟩ rfl rfl (Nat.le_of_ble_eq_true rfl) dX0_goHour_46 ⟨Nat.zero_le _, Nat.zero_le _⟩ (fun H locs hd => ?_)
      generalize S1 = S at h hd
      exact sBX0_goHour_49 C hr hr6  hd (lv_sub hl [0, 1] rfl) h
def LX0_goHour_6 : Nat → Int32 → St → Option St
  | 0 => fun _ _ => none
  | n + 1 => fun l1 S => KX0_goHour_6 (LX0_goHour_6 n) l1 S
theorem sLX0_goHour_6 (C : Cx p s m args meth c cX0_goHour 2 RX0 G) (hr : meth.sig.returnType = none) : ∀ (n : Nat) (l1 : Int32) (S : St) (res : St) (H : Heap) (locs : List Loc) (ls : Array Slot), Dy G S s H locs → lv_has ls 2 [(0, .ref (gR G 130)), (1, .int l1)] → LX0_goHour_6 n l1 S = some res → W p l e (rmL 6 0 0) s m args below meth c H locs 0 0 (MQ below (QV G res) args s 0 0 (Ab G)) (F0 m 6 ls []) := by
  intro n
  induction n with
  | zero => intro l1 S res H locs ls  hd hl h; cases h
  | succ n ih =>
    intro l1 S res H locs ls  hd hl h
    exact sKX0_goHour_6 C hr ih  hd hl h
def fX0_goHour  (S : St) : Option St :=
  bv (fX0_findPlaces  S) fun S => (LX0_goHour_6 FU 0 S)
set_option maxHeartbeats 4000000 in
set_option maxRecDepth 20000 in
theorem sfX0_goHour (C : Cx p s m args meth c cX0_goHour 2 RX0 G) (hr : meth.sig.returnType = none)  {S : St} {res : St} {H : Heap} {locs : List Loc} {ls : Array Slot}  (hd : Dy G S s H locs) (hl : lv_has ls 2 [(0, .ref (gR G 130))]) (h : fX0_goHour  S = some res) : W p l e (rmL 6 0 0) s m args below meth c H locs 0 0 (MQ below (QV G res) args s 0 0 (Ab G)) (F0 m 0 ls []) := by
  unfold fX0_goHour at h
  have hx := C.1.1
  have hb := C.1.2.1
  refine lv_aload_n hx hb dX0_goHour_0 rfl (lv_at hl 0 rfl) ?_
  obtain ⟨S1, hc, h⟩ := bv_some h
  refine R_cVv C hd (ccX0_findPlaces l G  hc) kX0_46 rfl (by decide) (rfl : kd 130 = 0) hl.1 ⟨by decide, by decide⟩ rfl rfl (Nat.le_of_ble_eq_true rfl) dX0_goHour_1 ⟨Nat.zero_le _, Nat.zero_le _⟩ (fun H locs hd => ?_)
  generalize S1 = S at h hd
  refine lv_iconst (v := 0) hx hb dX0_goHour_4 (by decide) ?_
  refine lv_istore_n (lv' := [(1, .int 0), (0, .ref (gR G 130))]) hx hb dX0_goHour_5 rfl hl (by decide) rfl (fun ls hl => ?_)
  exact sLX0_goHour_6 C hr _ 0 _ _ _ _ _  hd (lv_sub hl [1, 0] rfl) h
set_option maxRecDepth 20000 in
theorem ccX0_goHour (l : Launch) (G : Gt)  {S : St} {res : St}  (h : fX0_goHour  S = some res) : Met l yX0_goHour (wm yX0_goHour cX0_goHour 2 (none)) (rmL 6 0 0) (PcW G S [.ref (gR G 130)]) (QV G res) 0 0 (Ab G) := by
  refine Met.ofW (cc := cX0_goHour) (maxL := 2) (ret := none) (by decide) rfl ?_
  intro p e s m args below meth c s₁ B hml hv
  obtain ⟨rfl, hK, hP⟩ := hv
  have C : Cx p s m _ meth c cX0_goHour 2 RX0 G := ⟨⟨B.exec, B.bytes, hml, findClass_of_methodNamed B.named, fun w hw => atoms_spec (ws := wm yX0_goHour cX0_goHour 2 (none)) B.pre w (List.mem_cons_of_mem _ hw)⟩, B.notSynchronized, hK⟩
  have hl := lv_entry ([.ref (gR G 130)]) (n := 2) (Nat.le_of_ble_eq_true rfl)
  rw [lg_entry_eq]
  generalize (lg_sl ([.ref (gR G 130)]) ++ List.replicate (2 - (lg_sl ([.ref (gR G 130)])).length) Slot.unset).toArray = ls at hl ⊢
  exact sfX0_goHour C B.returns  ⟨hP, va_S.rf⟩ hl h
def KX0_go_2 (r2 : Int32 → Int32 → St → Option St) (l1 : Int32) (l2 : Int32) (S : St) : Option St :=
  (if l1 ≤ l2 then some S else bv (fX0_goHour  S) fun S => vl (l2 + 1) fun x2 => (r2 l1 x2 S))
set_option maxHeartbeats 4000000 in
set_option maxRecDepth 20000 in
theorem sKX0_go_2 (C : Cx p s m args meth c cX0_go 3 RX0 G) (hr : meth.sig.returnType = none) {r2 : Int32 → Int32 → St → Option St} (hr2 : ∀ (l1 : Int32) (l2 : Int32) (S : St) (res : St) (H : Heap) (locs : List Loc) (ls : Array Slot), Dy G S s H locs → lv_has ls 3 [(0, .ref (gR G 130)), (1, .int l1), (2, .int l2)] → r2 l1 l2 S = some res → W p l e (rmL 7 0 0) s m args below meth c H locs 0 0 (MQ below (QV G res) args s 0 0 (Ab G)) (F0 m 2 ls [])) {l1 : Int32} {l2 : Int32} {S : St} {res : St} {H : Heap} {locs : List Loc} {ls : Array Slot}  (hd : Dy G S s H locs) (hl : lv_has ls 3 [(0, .ref (gR G 130)), (1, .int l1), (2, .int l2)]) (h : KX0_go_2 r2 l1 l2 S = some res) : W p l e (rmL 7 0 0) s m args below meth c H locs 0 0 (MQ below (QV G res) args s 0 0 (Ab G)) (F0 m 2 ls []) := by
  unfold KX0_go_2 at h
  have hx := C.1.1
  have hb := C.1.2.1
  refine lv_iload_n hx hb dX0_go_2 rfl (lv_at hl 2 rfl) ?_
  refine lv_iload_n hx hb dX0_go_3 rfl (lv_at hl 1 rfl) ?_
  refine lv_icmp_ge (tgt := 17) hx hb dX0_go_4 (by decide) (fun c1 => ?_) (fun c1 => ?_)
  · rw [if_pos c1] at h
    exact R_vret C hr hd h dX0_go_17
  · rw [if_neg c1] at h
    refine lv_aload_n hx hb dX0_go_7 rfl (lv_at hl 0 rfl) ?_
    obtain ⟨S1, hc, h⟩ := bv_some h
    refine R_cVv C hd (ccX0_goHour l G  hc) kX0_59 rfl (by decide) (rfl : kd 130 = 0) hl.1 ⟨by decide, by decide⟩ rfl rfl (Nat.le_of_ble_eq_true rfl) dX0_go_8 ⟨Nat.zero_le _, Nat.zero_le _⟩ (fun H locs hd => ?_)
    generalize S1 = S at h hd
    refine R_vi h (fun x2 ex2 h => ?_)
    refine lv_iinc (v := x2) (lv' := [(2, .int x2), (0, .ref (gR G 130)), (1, .int l1)]) hx hb dX0_go_11 hl (k := 2) rfl (by rw [ex2]; rfl) (by decide) rfl (fun ls hl => ?_)
    refine lv_goto (tgt := 2) hx hb dX0_go_14 (by decide) ?_
    exact hr2 l1 x2 _ _ _ _ _  hd (lv_sub hl [1, 2, 0] rfl) h
def LX0_go_2 : Nat → Int32 → Int32 → St → Option St
  | 0 => fun _ _ _ => none
  | n + 1 => fun l1 l2 S => KX0_go_2 (LX0_go_2 n) l1 l2 S
theorem sLX0_go_2 (C : Cx p s m args meth c cX0_go 3 RX0 G) (hr : meth.sig.returnType = none) : ∀ (n : Nat) (l1 : Int32) (l2 : Int32) (S : St) (res : St) (H : Heap) (locs : List Loc) (ls : Array Slot), Dy G S s H locs → lv_has ls 3 [(0, .ref (gR G 130)), (1, .int l1), (2, .int l2)] → LX0_go_2 n l1 l2 S = some res → W p l e (rmL 7 0 0) s m args below meth c H locs 0 0 (MQ below (QV G res) args s 0 0 (Ab G)) (F0 m 2 ls []) := by
  intro n
  induction n with
  | zero => intro l1 l2 S res H locs ls  hd hl h; cases h
  | succ n ih =>
    intro l1 l2 S res H locs ls  hd hl h
    exact sKX0_go_2 C hr ih  hd hl h
def fX0_go (a1 : Int32) (S : St) : Option St :=
  (LX0_go_2 FU a1 0 S)
set_option maxHeartbeats 4000000 in
set_option maxRecDepth 20000 in
theorem sfX0_go (C : Cx p s m args meth c cX0_go 3 RX0 G) (hr : meth.sig.returnType = none) {a1 : Int32} {S : St} {res : St} {H : Heap} {locs : List Loc} {ls : Array Slot}  (hd : Dy G S s H locs) (hl : lv_has ls 3 [(0, .ref (gR G 130)), (1, .int a1)]) (h : fX0_go a1 S = some res) : W p l e (rmL 7 0 0) s m args below meth c H locs 0 0 (MQ below (QV G res) args s 0 0 (Ab G)) (F0 m 0 ls []) := by
  unfold fX0_go at h
  have hx := C.1.1
  have hb := C.1.2.1
  refine lv_iconst (v := 0) hx hb dX0_go_0 (by decide) ?_
  refine lv_istore_n (lv' := [(2, .int 0), (0, .ref (gR G 130)), (1, .int a1)]) hx hb dX0_go_1 rfl hl (by decide) rfl (fun ls hl => ?_)
  exact sLX0_go_2 C hr _ a1 0 _ _ _ _ _  hd (lv_sub hl [1, 2, 0] rfl) h
set_option maxRecDepth 20000 in
theorem ccX0_go (l : Launch) (G : Gt) {a1 : Int32} {S : St} {res : St}  (h : fX0_go a1 S = some res) : Met l yX0_go (wm yX0_go cX0_go 3 (none)) (rmL 7 0 0) (PcW G S [.ref (gR G 130), .int a1]) (QV G res) 0 0 (Ab G) := by
  refine Met.ofW (cc := cX0_go) (maxL := 3) (ret := none) (by decide) rfl ?_
  intro p e s m args below meth c s₁ B hml hv
  obtain ⟨rfl, hK, hP⟩ := hv
  have C : Cx p s m _ meth c cX0_go 3 RX0 G := ⟨⟨B.exec, B.bytes, hml, findClass_of_methodNamed B.named, fun w hw => atoms_spec (ws := wm yX0_go cX0_go 3 (none)) B.pre w (List.mem_cons_of_mem _ hw)⟩, B.notSynchronized, hK⟩
  have hl := lv_entry ([.ref (gR G 130), .int a1]) (n := 3) (Nat.le_of_ble_eq_true rfl)
  rw [lg_entry_eq]
  generalize (lg_sl ([.ref (gR G 130), .int a1]) ++ List.replicate (3 - (lg_sl ([.ref (gR G 130), .int a1])).length) Slot.unset).toArray = ls at hl ⊢
  exact sfX0_go C B.returns  ⟨hP, va_S.rf⟩ hl h
def BX0_freeTunes_45 (r4 : Int32 → Int32 → Int32 → St → Option (Int32 × St)) (l1 : Int32) (l2 : Int32) (l3 : Int32) (S : St) : Option (Int32 × St) :=
  vl (l3 + 1) fun x1 => (r4 l1 l2 x1 S)
set_option maxHeartbeats 4000000 in
set_option maxRecDepth 20000 in
theorem sBX0_freeTunes_45 (C : Cx p s m args meth c cX0_freeTunes 4 RX0 G) (hr : meth.sig.returnType = some .int) {r4 : Int32 → Int32 → Int32 → St → Option (Int32 × St)} (hr4 : ∀ (l1 : Int32) (l2 : Int32) (l3 : Int32) (S : St) (res : (Int32 × St)) (H : Heap) (locs : List Loc) (ls : Array Slot), Dy G S s H locs → lv_has ls 4 [(0, .ref (gR G 130)), (1, .int l1), (2, .int l2), (3, .int l3)] → r4 l1 l2 l3 S = some res → W p l e (rmL 4 0 0) s m args below meth c H locs 0 0 (MQ below (QI G res.1 res.2) args s 0 0 (Ab G)) (F0 m 4 ls [])) {l1 : Int32} {l2 : Int32} {l3 : Int32} {S : St} {res : (Int32 × St)} {H : Heap} {locs : List Loc} {ls : Array Slot}  (hd : Dy G S s H locs) (hl : lv_has ls 4 [(0, .ref (gR G 130)), (1, .int l1), (2, .int l2), (3, .int l3)]) (h : BX0_freeTunes_45 r4 l1 l2 l3 S = some res) : W p l e (rmL 4 0 0) s m args below meth c H locs 0 0 (MQ below (QI G res.1 res.2) args s 0 0 (Ab G)) (F0 m 45 ls []) := by
  unfold BX0_freeTunes_45 at h
  have hx := C.1.1
  have hb := C.1.2.1
  refine R_vi h (fun x1 ex1 h => ?_)
  refine lv_iinc (v := x1) (lv' := [(3, .int x1), (0, .ref (gR G 130)), (1, .int l1), (2, .int l2)]) hx hb dX0_freeTunes_45 hl (k := 3) rfl (by rw [ex1]; rfl) (by decide) rfl (fun ls hl => ?_)
  refine lv_goto (tgt := 4) hx hb dX0_freeTunes_48 (by decide) ?_
  exact hr4 l1 l2 x1 _ _ _ _ _  hd (lv_sub hl [1, 2, 3, 0] rfl) h
def KX0_freeTunes_4 (r4 : Int32 → Int32 → Int32 → St → Option (Int32 × St)) (l1 : Int32) (l2 : Int32) (l3 : Int32) (S : St) : Option (Int32 × St) :=
  gm S 130 0 8 fun q1 => (if (S q1 0) ≤ l3 then ri l2 S else rd S 131 (2 + l1) fun x4 => (if ((x4 >>> (l3 &&& 31)) &&& 1) = 0 then (BX0_freeTunes_45 r4 l1 l2 l3 S) else bd (fX0_wouldTrespass l1 l3 S) fun x6 S => (if x6 = 0 then vl (l2 ||| ((1 : Int32) <<< (l3 &&& 31))) fun x8 => (BX0_freeTunes_45 r4 l1 x8 l3 S) else (BX0_freeTunes_45 r4 l1 l2 l3 S))))
set_option maxHeartbeats 4000000 in
set_option maxRecDepth 20000 in
theorem sKX0_freeTunes_4 (C : Cx p s m args meth c cX0_freeTunes 4 RX0 G) (hr : meth.sig.returnType = some .int) {r4 : Int32 → Int32 → Int32 → St → Option (Int32 × St)} (hr4 : ∀ (l1 : Int32) (l2 : Int32) (l3 : Int32) (S : St) (res : (Int32 × St)) (H : Heap) (locs : List Loc) (ls : Array Slot), Dy G S s H locs → lv_has ls 4 [(0, .ref (gR G 130)), (1, .int l1), (2, .int l2), (3, .int l3)] → r4 l1 l2 l3 S = some res → W p l e (rmL 4 0 0) s m args below meth c H locs 0 0 (MQ below (QI G res.1 res.2) args s 0 0 (Ab G)) (F0 m 4 ls [])) {l1 : Int32} {l2 : Int32} {l3 : Int32} {S : St} {res : (Int32 × St)} {H : Heap} {locs : List Loc} {ls : Array Slot}  (hd : Dy G S s H locs) (hl : lv_has ls 4 [(0, .ref (gR G 130)), (1, .int l1), (2, .int l2), (3, .int l3)]) (h : KX0_freeTunes_4 r4 l1 l2 l3 S = some res) : W p l e (rmL 4 0 0) s m args below meth c H locs 0 0 (MQ below (QI G res.1 res.2) args s 0 0 (Ab G)) (F0 m 4 ls []) := by
  unfold KX0_freeTunes_4 at h
  have hx := C.1.1
  have hb := C.1.2.1
  refine lv_iload_n hx hb dX0_freeTunes_4 rfl (lv_at hl 3 rfl) ?_
  refine lv_aload_n hx hb dX0_freeTunes_5 rfl (lv_at hl 0 rfl) ?_
  refine gX0_30 C hd (rfl : kd 130 = 0) h dX0_freeTunes_6 (fun q1 kq1 h => ?_)
  refine gX0_80 C hd kq1 dX0_freeTunes_9 ?_
  refine lv_icmp_ge (tgt := 51) hx hb dX0_freeTunes_12 (by decide) (fun c2 => ?_) (fun c2 => ?_)
  · rw [if_pos c2] at h
    refine lv_iload_n hx hb dX0_freeTunes_51 rfl (lv_at hl 2 rfl) ?_
    exact R_iret C hr hd h dX0_freeTunes_52
  · rw [if_neg c2] at h
    refine lv_aload_n hx hb dX0_freeTunes_15 rfl (lv_at hl 0 rfl) ?_
    refine gX0_9 C hd (rfl : kd 130 = 0) (q := 131) rfl dX0_freeTunes_16 (fun y3 => ?_)
    refine lv_iconst (v := 2) hx hb dX0_freeTunes_19 (by decide) ?_
    refine lv_iload_n hx hb dX0_freeTunes_20 rfl (lv_at hl 1 rfl) ?_
    refine lv_iadd hx hb dX0_freeTunes_21 ?_
    refine R_iald C hd y3 h dX0_freeTunes_22 (fun x4 h => ?_)
    refine lv_iload_n hx hb dX0_freeTunes_23 rfl (lv_at hl 3 rfl) ?_
    refine lv_ishr hx hb dX0_freeTunes_24 ?_
    refine lv_iconst (v := 1) hx hb dX0_freeTunes_25 (by decide) ?_
    refine lv_iand hx hb dX0_freeTunes_26 ?_
    refine lv_if_eq (tgt := 45) hx hb dX0_freeTunes_27 (by decide) (fun c5 => ?_) (fun c5 => ?_)
    · rw [if_pos c5] at h
      exact sBX0_freeTunes_45 C hr hr4  hd (lv_sub hl [0, 1, 2, 3] rfl) h
    · rw [if_neg c5] at h
      refine lv_aload_n hx hb dX0_freeTunes_30 rfl (lv_at hl 0 rfl) ?_
      refine lv_iload_n hx hb dX0_freeTunes_31 rfl (lv_at hl 1 rfl) ?_
      refine lv_iload_n hx hb dX0_freeTunes_32 rfl (lv_at hl 3 rfl) ?_
      obtain ⟨x6, S1, hc, h⟩ := bd_some h
      refine R_cVi C hd (ccX0_wouldTrespass l G  hc) kX0_102 rfl (by decide) (rfl : kd 130 = 0) hl.1 ⟨by decide, by decide⟩ rfl rfl (Nat.le_of_ble_eq_true rfl) dX0_freeTunes_33 ⟨Nat.zero_le _, Nat.zero_le _⟩ (fun H locs hd => ?_)
      generalize S1 = S at h hd
      refine lv_if_ne (tgt := 45) hx hb dX0_freeTunes_36 (by decide) (fun c7 => ?_) (fun c7 => ?_)
      · rw [if_neg c7] at h
        exact sBX0_freeTunes_45 C hr hr4  hd (lv_sub hl [0, 1, 2, 3] rfl) h
      · rw [if_pos c7] at h
        refine lv_iload_n hx hb dX0_freeTunes_39 rfl (lv_at hl 2 rfl) ?_
        refine lv_iconst (v := 1) hx hb dX0_freeTunes_40 (by decide) ?_
        refine lv_iload_n hx hb dX0_freeTunes_41 rfl (lv_at hl 3 rfl) ?_
        refine lv_ishl hx hb dX0_freeTunes_42 ?_
        refine lv_ior hx hb dX0_freeTunes_43 ?_
        refine R_vl h (fun x8 h => ?_)
        refine lv_istore_n (lv' := [(2, .int x8), (0, .ref (gR G 130)), (1, .int l1), (3, .int l3)]) hx hb dX0_freeTunes_44 rfl hl (by decide) rfl (fun ls hl => ?_)
        exact sBX0_freeTunes_45 C hr hr4  hd (lv_sub hl [1, 2, 0, 3] rfl) h
def LX0_freeTunes_4 : Nat → Int32 → Int32 → Int32 → St → Option (Int32 × St)
  | 0 => fun _ _ _ _ => none
  | n + 1 => fun l1 l2 l3 S => KX0_freeTunes_4 (LX0_freeTunes_4 n) l1 l2 l3 S
theorem sLX0_freeTunes_4 (C : Cx p s m args meth c cX0_freeTunes 4 RX0 G) (hr : meth.sig.returnType = some .int) : ∀ (n : Nat) (l1 : Int32) (l2 : Int32) (l3 : Int32) (S : St) (res : (Int32 × St)) (H : Heap) (locs : List Loc) (ls : Array Slot), Dy G S s H locs → lv_has ls 4 [(0, .ref (gR G 130)), (1, .int l1), (2, .int l2), (3, .int l3)] → LX0_freeTunes_4 n l1 l2 l3 S = some res → W p l e (rmL 4 0 0) s m args below meth c H locs 0 0 (MQ below (QI G res.1 res.2) args s 0 0 (Ab G)) (F0 m 4 ls []) := by
  intro n
  induction n with
  | zero => intro l1 l2 l3 S res H locs ls  hd hl h; cases h
  | succ n ih =>
    intro l1 l2 l3 S res H locs ls  hd hl h
    exact sKX0_freeTunes_4 C hr ih  hd hl h
def fX0_freeTunes (a1 : Int32) (S : St) : Option (Int32 × St) :=
  (LX0_freeTunes_4 FU a1 0 0 S)
set_option maxHeartbeats 4000000 in
set_option maxRecDepth 20000 in
theorem sfX0_freeTunes (C : Cx p s m args meth c cX0_freeTunes 4 RX0 G) (hr : meth.sig.returnType = some .int) {a1 : Int32} {S : St} {res : (Int32 × St)} {H : Heap} {locs : List Loc} {ls : Array Slot}  (hd : Dy G S s H locs) (hl : lv_has ls 4 [(0, .ref (gR G 130)), (1, .int a1)]) (h : fX0_freeTunes a1 S = some res) : W p l e (rmL 4 0 0) s m args below meth c H locs 0 0 (MQ below (QI G res.1 res.2) args s 0 0 (Ab G)) (F0 m 0 ls []) := by
  unfold fX0_freeTunes at h
  have hx := C.1.1
  have hb := C.1.2.1
  refine lv_iconst (v := 0) hx hb dX0_freeTunes_0 (by decide) ?_
  refine lv_istore_n (lv' := [(2, .int 0), (0, .ref (gR G 130)), (1, .int a1)]) hx hb dX0_freeTunes_1 rfl hl (by decide) rfl (fun ls hl => ?_)
  refine lv_iconst (v := 0) hx hb dX0_freeTunes_2 (by decide) ?_
  refine lv_istore_n (lv' := [(3, .int 0), (2, .int 0), (0, .ref (gR G 130)), (1, .int a1)]) hx hb dX0_freeTunes_3 rfl hl (by decide) rfl (fun ls hl => ?_)
  exact sLX0_freeTunes_4 C hr _ a1 0 0 _ _ _ _ _  hd (lv_sub hl [2, 3, 1, 0] rfl) h
set_option maxRecDepth 20000 in
theorem ccX0_freeTunes (l : Launch) (G : Gt) {a1 : Int32} {S : St} {res : (Int32 × St)}  (h : fX0_freeTunes a1 S = some res) : Met l yX0_freeTunes (wm yX0_freeTunes cX0_freeTunes 4 (some .int)) (rmL 4 0 0) (PcW G S [.ref (gR G 130), .int a1]) (QI G res.1 res.2) 0 0 (Ab G) := by
  refine Met.ofW (cc := cX0_freeTunes) (maxL := 4) (ret := (some .int)) (by decide) rfl ?_
  intro p e s m args below meth c s₁ B hml hv
  obtain ⟨rfl, hK, hP⟩ := hv
  have C : Cx p s m _ meth c cX0_freeTunes 4 RX0 G := ⟨⟨B.exec, B.bytes, hml, findClass_of_methodNamed B.named, fun w hw => atoms_spec (ws := wm yX0_freeTunes cX0_freeTunes 4 (some .int)) B.pre w (List.mem_cons_of_mem _ hw)⟩, B.notSynchronized, hK⟩
  have hl := lv_entry ([.ref (gR G 130), .int a1]) (n := 4) (Nat.le_of_ble_eq_true rfl)
  rw [lg_entry_eq]
  generalize (lg_sl ([.ref (gR G 130), .int a1]) ++ List.replicate (4 - (lg_sl ([.ref (gR G 130), .int a1])).length) Slot.unset).toArray = ls at hl ⊢
  exact sfX0_freeTunes C B.returns  ⟨hP, va_S.rf⟩ hl h
def BX0_know_38 (r2 : Int32 → Int32 → Int32 → St → Option (Int32 × St)) (l1 : Int32) (l2 : Int32) (l3 : Int32) (S : St) : Option (Int32 × St) :=
  vl (l3 + 1) fun x1 => (r2 l1 l2 x1 S)
set_option maxHeartbeats 4000000 in
set_option maxRecDepth 20000 in
theorem sBX0_know_38 (C : Cx p s m args meth c cX0_know 4 RX0 G) (hr : meth.sig.returnType = some .boolean) {r2 : Int32 → Int32 → Int32 → St → Option (Int32 × St)} (hr2 : ∀ (l1 : Int32) (l2 : Int32) (l3 : Int32) (S : St) (res : (Int32 × St)) (H : Heap) (locs : List Loc) (ls : Array Slot), Dy G S s H locs → lv_has ls 4 [(0, .ref (gR G 130)), (1, .int l1), (2, .int l2), (3, .int l3)] → r2 l1 l2 l3 S = some res → W p l e (rmL 3 0 0) s m args below meth c H locs 0 0 (MQ below (QI G res.1 res.2) args s 0 0 (Ab G)) (F0 m 2 ls [])) {l1 : Int32} {l2 : Int32} {l3 : Int32} {S : St} {res : (Int32 × St)} {H : Heap} {locs : List Loc} {ls : Array Slot}  (hd : Dy G S s H locs) (hl : lv_has ls 4 [(0, .ref (gR G 130)), (1, .int l1), (2, .int l2), (3, .int l3)]) (h : BX0_know_38 r2 l1 l2 l3 S = some res) : W p l e (rmL 3 0 0) s m args below meth c H locs 0 0 (MQ below (QI G res.1 res.2) args s 0 0 (Ab G)) (F0 m 38 ls []) := by
  unfold BX0_know_38 at h
  have hx := C.1.1
  have hb := C.1.2.1
  refine R_vi h (fun x1 ex1 h => ?_)
  refine lv_iinc (v := x1) (lv' := [(3, .int x1), (0, .ref (gR G 130)), (1, .int l1), (2, .int l2)]) hx hb dX0_know_38 hl (k := 3) rfl (by rw [ex1]; rfl) (by decide) rfl (fun ls hl => ?_)
  refine lv_goto (tgt := 2) hx hb dX0_know_41 (by decide) ?_
  exact hr2 l1 l2 x1 _ _ _ _ _  hd (lv_sub hl [1, 2, 3, 0] rfl) h
def KX0_know_2 (r2 : Int32 → Int32 → Int32 → St → Option (Int32 × St)) (l1 : Int32) (l2 : Int32) (l3 : Int32) (S : St) : Option (Int32 × St) :=
  gm S 130 0 8 fun q1 => (if (S q1 2) ≤ l3 then rz 1 S else (if ((l1 >>> (l3 &&& 31)) &&& 1) = 0 then (BX0_know_38 r2 l1 l2 l3 S) else rd S 131 (2 + l3) fun x5 => (if ((x5 >>> (l2 &&& 31)) &&& 1) = 0 then rz 0 S else (BX0_know_38 r2 l1 l2 l3 S))))
set_option maxHeartbeats 4000000 in
set_option maxRecDepth 20000 in
theorem sKX0_know_2 (C : Cx p s m args meth c cX0_know 4 RX0 G) (hr : meth.sig.returnType = some .boolean) {r2 : Int32 → Int32 → Int32 → St → Option (Int32 × St)} (hr2 : ∀ (l1 : Int32) (l2 : Int32) (l3 : Int32) (S : St) (res : (Int32 × St)) (H : Heap) (locs : List Loc) (ls : Array Slot), Dy G S s H locs → lv_has ls 4 [(0, .ref (gR G 130)), (1, .int l1), (2, .int l2), (3, .int l3)] → r2 l1 l2 l3 S = some res → W p l e (rmL 3 0 0) s m args below meth c H locs 0 0 (MQ below (QI G res.1 res.2) args s 0 0 (Ab G)) (F0 m 2 ls [])) {l1 : Int32} {l2 : Int32} {l3 : Int32} {S : St} {res : (Int32 × St)} {H : Heap} {locs : List Loc} {ls : Array Slot}  (hd : Dy G S s H locs) (hl : lv_has ls 4 [(0, .ref (gR G 130)), (1, .int l1), (2, .int l2), (3, .int l3)]) (h : KX0_know_2 r2 l1 l2 l3 S = some res) : W p l e (rmL 3 0 0) s m args below meth c H locs 0 0 (MQ below (QI G res.1 res.2) args s 0 0 (Ab G)) (F0 m 2 ls []) := by
  unfold KX0_know_2 at h
  have hx := C.1.1
  have hb := C.1.2.1
  refine lv_iload_n hx hb dX0_know_2 rfl (lv_at hl 3 rfl) ?_
  refine lv_aload_n hx hb dX0_know_3 rfl (lv_at hl 0 rfl) ?_
  refine gX0_30 C hd (rfl : kd 130 = 0) h dX0_know_4 (fun q1 kq1 h => ?_)
  refine gX0_49 C hd kq1 dX0_know_7 ?_
  refine lv_icmp_ge (tgt := 44) hx hb dX0_know_10 (by decide) (fun c2 => ?_) (fun c2 => ?_)
  · rw [if_pos c2] at h
    refine lv_iconst (v := 1) hx hb dX0_know_44 (by decide) ?_
    exact R_zret C hr hd h dX0_know_45
  · rw [if_neg c2] at h
    refine lv_iload_n hx hb dX0_know_13 rfl (lv_at hl 1 rfl) ?_
    refine lv_iload_n hx hb dX0_know_14 rfl (lv_at hl 3 rfl) ?_
    refine lv_ishr hx hb dX0_know_15 ?_
    refine lv_iconst (v := 1) hx hb dX0_know_16 (by decide) ?_
    refine lv_iand hx hb dX0_know_17 ?_
    refine lv_if_eq (tgt := 38) hx hb dX0_know_18 (by decide) (fun c3 => ?_) (fun c3 => ?_)
    · rw [if_pos c3] at h
      exact sBX0_know_38 C hr hr2  hd (lv_sub hl [0, 1, 2, 3] rfl) h
    · rw [if_neg c3] at h
      refine lv_aload_n hx hb dX0_know_21 rfl (lv_at hl 0 rfl) ?_
      refine gX0_9 C hd (rfl : kd 130 = 0) (q := 131) rfl dX0_know_22 (fun y4 => ?_)
      refine lv_iconst (v := 2) hx hb dX0_know_25 (by decide) ?_
      refine lv_iload_n hx hb dX0_know_26 rfl (lv_at hl 3 rfl) ?_
      refine lv_iadd hx hb dX0_know_27 ?_
      refine R_iald C hd y4 h dX0_know_28 (fun x5 h => ?_)
      refine lv_iload_n hx hb dX0_know_29 rfl (lv_at hl 2 rfl) ?_
      refine lv_ishr hx hb dX0_know_30 ?_
      refine lv_iconst (v := 1) hx hb dX0_know_31 (by decide) ?_
      refine lv_iand hx hb dX0_know_32 ?_
      refine lv_if_ne (tgt := 38) hx hb dX0_know_33 (by decide) (fun c6 => ?_) (fun c6 => ?_)
      · rw [if_neg c6] at h
        exact sBX0_know_38 C hr hr2  hd (lv_sub hl [0, 1, 2, 3] rfl) h
      · rw [if_pos c6] at h
        refine lv_iconst (v := 0) hx hb dX0_know_36 (by decide) ?_
        exact R_zret C hr hd h dX0_know_37
def LX0_know_2 : Nat → Int32 → Int32 → Int32 → St → Option (Int32 × St)
  | 0 => fun _ _ _ _ => none
  | n + 1 => fun l1 l2 l3 S => KX0_know_2 (LX0_know_2 n) l1 l2 l3 S
theorem sLX0_know_2 (C : Cx p s m args meth c cX0_know 4 RX0 G) (hr : meth.sig.returnType = some .boolean) : ∀ (n : Nat) (l1 : Int32) (l2 : Int32) (l3 : Int32) (S : St) (res : (Int32 × St)) (H : Heap) (locs : List Loc) (ls : Array Slot), Dy G S s H locs → lv_has ls 4 [(0, .ref (gR G 130)), (1, .int l1), (2, .int l2), (3, .int l3)] → LX0_know_2 n l1 l2 l3 S = some res → W p l e (rmL 3 0 0) s m args below meth c H locs 0 0 (MQ below (QI G res.1 res.2) args s 0 0 (Ab G)) (F0 m 2 ls []) := by
  intro n
  induction n with
  | zero => intro l1 l2 l3 S res H locs ls  hd hl h; cases h
  | succ n ih =>
    intro l1 l2 l3 S res H locs ls  hd hl h
    exact sKX0_know_2 C hr ih  hd hl h
def fX0_know (a1 : Int32) (a2 : Int32) (S : St) : Option (Int32 × St) :=
  (LX0_know_2 FU a1 a2 0 S)
set_option maxHeartbeats 4000000 in
set_option maxRecDepth 20000 in
theorem sfX0_know (C : Cx p s m args meth c cX0_know 4 RX0 G) (hr : meth.sig.returnType = some .boolean) {a1 : Int32} {a2 : Int32} {S : St} {res : (Int32 × St)} {H : Heap} {locs : List Loc} {ls : Array Slot}  (hd : Dy G S s H locs) (hl : lv_has ls 4 [(0, .ref (gR G 130)), (1, .int a1), (2, .int a2)]) (h : fX0_know a1 a2 S = some res) : W p l e (rmL 3 0 0) s m args below meth c H locs 0 0 (MQ below (QI G res.1 res.2) args s 0 0 (Ab G)) (F0 m 0 ls []) := by
  unfold fX0_know at h
  have hx := C.1.1
  have hb := C.1.2.1
  refine lv_iconst (v := 0) hx hb dX0_know_0 (by decide) ?_
  refine lv_istore_n (lv' := [(3, .int 0), (0, .ref (gR G 130)), (1, .int a1), (2, .int a2)]) hx hb dX0_know_1 rfl hl (by decide) rfl (fun ls hl => ?_)
  exact sLX0_know_2 C hr _ a1 a2 0 _ _ _ _ _  hd (lv_sub hl [1, 2, 3, 0] rfl) h
set_option maxRecDepth 20000 in
theorem ccX0_know (l : Launch) (G : Gt) {a1 : Int32} {a2 : Int32} {S : St} {res : (Int32 × St)}  (h : fX0_know a1 a2 S = some res) : Met l yX0_know (wm yX0_know cX0_know 4 (some .boolean)) (rmL 3 0 0) (PcW G S [.ref (gR G 130), .int a1, .int a2]) (QI G res.1 res.2) 0 0 (Ab G) := by
  refine Met.ofW (cc := cX0_know) (maxL := 4) (ret := (some .boolean)) (by decide) rfl ?_
  intro p e s m args below meth c s₁ B hml hv
  obtain ⟨rfl, hK, hP⟩ := hv
  have C : Cx p s m _ meth c cX0_know 4 RX0 G := ⟨⟨B.exec, B.bytes, hml, findClass_of_methodNamed B.named, fun w hw => atoms_spec (ws := wm yX0_know cX0_know 4 (some .boolean)) B.pre w (List.mem_cons_of_mem _ hw)⟩, B.notSynchronized, hK⟩
  have hl := lv_entry ([.ref (gR G 130), .int a1, .int a2]) (n := 4) (Nat.le_of_ble_eq_true rfl)
  rw [lg_entry_eq]
  generalize (lg_sl ([.ref (gR G 130), .int a1, .int a2]) ++ List.replicate (4 - (lg_sl ([.ref (gR G 130), .int a1, .int a2])).length) Slot.unset).toArray = ls at hl ⊢
  exact sfX0_know C B.returns  ⟨hP, va_S.rf⟩ hl h
def BX0_knownByOthers_31 (r4 : Int32 → Int32 → Int32 → St → Option (Int32 × St)) (l1 : Int32) (l2 : Int32) (l3 : Int32) (S : St) : Option (Int32 × St) :=
  vl (l3 + 1) fun x1 => (r4 l1 l2 x1 S)
set_option maxHeartbeats 4000000 in
set_option maxRecDepth 20000 in
theorem sBX0_knownByOthers_31 (C : Cx p s m args meth c cX0_knownByOthers 4 RX0 G) (hr : meth.sig.returnType = some .int) {r4 : Int32 → Int32 → Int32 → St → Option (Int32 × St)} (hr4 : ∀ (l1 : Int32) (l2 : Int32) (l3 : Int32) (S : St) (res : (Int32 × St)) (H : Heap) (locs : List Loc) (ls : Array Slot), Dy G S s H locs → lv_has ls 4 [(0, .ref (gR G 130)), (1, .int l1), (2, .int l2), (3, .int l3)] → r4 l1 l2 l3 S = some res → W p l e (rmL 3 0 0) s m args below meth c H locs 0 0 (MQ below (QI G res.1 res.2) args s 0 0 (Ab G)) (F0 m 4 ls [])) {l1 : Int32} {l2 : Int32} {l3 : Int32} {S : St} {res : (Int32 × St)} {H : Heap} {locs : List Loc} {ls : Array Slot}  (hd : Dy G S s H locs) (hl : lv_has ls 4 [(0, .ref (gR G 130)), (1, .int l1), (2, .int l2), (3, .int l3)]) (h : BX0_knownByOthers_31 r4 l1 l2 l3 S = some res) : W p l e (rmL 3 0 0) s m args below meth c H locs 0 0 (MQ below (QI G res.1 res.2) args s 0 0 (Ab G)) (F0 m 31 ls []) := by
  unfold BX0_knownByOthers_31 at h
  have hx := C.1.1
  have hb := C.1.2.1
  refine R_vi h (fun x1 ex1 h => ?_)
  refine lv_iinc (v := x1) (lv' := [(3, .int x1), (0, .ref (gR G 130)), (1, .int l1), (2, .int l2)]) hx hb dX0_knownByOthers_31 hl (k := 3) rfl (by rw [ex1]; rfl) (by decide) rfl (fun ls hl => ?_)
  refine lv_goto (tgt := 4) hx hb dX0_knownByOthers_34 (by decide) ?_
  exact hr4 l1 l2 x1 _ _ _ _ _  hd (lv_sub hl [1, 2, 3, 0] rfl) h
def KX0_knownByOthers_4 (r4 : Int32 → Int32 → Int32 → St → Option (Int32 × St)) (l1 : Int32) (l2 : Int32) (l3 : Int32) (S : St) : Option (Int32 × St) :=
  gm S 130 0 8 fun q1 => (if (S q1 2) ≤ l3 then ri l2 S else (if l3 = l1 then (BX0_knownByOthers_31 r4 l1 l2 l3 S) else rd S 131 (2 + l3) fun x5 => vl (l2 ||| x5) fun x6 => (BX0_knownByOthers_31 r4 l1 x6 l3 S)))
set_option maxHeartbeats 4000000 in
set_option maxRecDepth 20000 in
theorem sKX0_knownByOthers_4 (C : Cx p s m args meth c cX0_knownByOthers 4 RX0 G) (hr : meth.sig.returnType = some .int) {r4 : Int32 → Int32 → Int32 → St → Option (Int32 × St)} (hr4 : ∀ (l1 : Int32) (l2 : Int32) (l3 : Int32) (S : St) (res : (Int32 × St)) (H : Heap) (locs : List Loc) (ls : Array Slot), Dy G S s H locs → lv_has ls 4 [(0, .ref (gR G 130)), (1, .int l1), (2, .int l2), (3, .int l3)] → r4 l1 l2 l3 S = some res → W p l e (rmL 3 0 0) s m args below meth c H locs 0 0 (MQ below (QI G res.1 res.2) args s 0 0 (Ab G)) (F0 m 4 ls [])) {l1 : Int32} {l2 : Int32} {l3 : Int32} {S : St} {res : (Int32 × St)} {H : Heap} {locs : List Loc} {ls : Array Slot}  (hd : Dy G S s H locs) (hl : lv_has ls 4 [(0, .ref (gR G 130)), (1, .int l1), (2, .int l2), (3, .int l3)]) (h : KX0_knownByOthers_4 r4 l1 l2 l3 S = some res) : W p l e (rmL 3 0 0) s m args below meth c H locs 0 0 (MQ below (QI G res.1 res.2) args s 0 0 (Ab G)) (F0 m 4 ls []) := by
  unfold KX0_knownByOthers_4 at h
  have hx := C.1.1
  have hb := C.1.2.1
  refine lv_iload_n hx hb dX0_knownByOthers_4 rfl (lv_at hl 3 rfl) ?_
  refine lv_aload_n hx hb dX0_knownByOthers_5 rfl (lv_at hl 0 rfl) ?_
  refine gX0_30 C hd (rfl : kd 130 = 0) h dX0_knownByOthers_6 (fun q1 kq1 h => ?_)
  refine gX0_49 C hd kq1 dX0_knownByOthers_9 ?_
  refine lv_icmp_ge (tgt := 37) hx hb dX0_knownByOthers_12 (by decide) (fun c2 => ?_) (fun c2 => ?_)
  · rw [if_pos c2] at h
    refine lv_iload_n hx hb dX0_knownByOthers_37 rfl (lv_at hl 2 rfl) ?_
    exact R_iret C hr hd h dX0_knownByOthers_38
  · rw [if_neg c2] at h
    refine lv_iload_n hx hb dX0_knownByOthers_15 rfl (lv_at hl 3 rfl) ?_
    refine lv_iload_n hx hb dX0_knownByOthers_16 rfl (lv_at hl 1 rfl) ?_
    refine lv_icmp_eq (tgt := 31) hx hb dX0_knownByOthers_17 (by decide) (fun c3 => ?_) (fun c3 => ?_)
    · rw [if_pos c3] at h
      exact sBX0_knownByOthers_31 C hr hr4  hd (lv_sub hl [0, 1, 2, 3] rfl) h
    · rw [if_neg c3] at h
      refine lv_iload_n hx hb dX0_knownByOthers_20 rfl (lv_at hl 2 rfl) ?_
      refine lv_aload_n hx hb dX0_knownByOthers_21 rfl (lv_at hl 0 rfl) ?_
      refine gX0_9 C hd (rfl : kd 130 = 0) (q := 131) rfl dX0_knownByOthers_22 (fun y4 => ?_)
      refine lv_iconst (v := 2) hx hb dX0_knownByOthers_25 (by decide) ?_
      refine lv_iload_n hx hb dX0_knownByOthers_26 rfl (lv_at hl 3 rfl) ?_
      refine lv_iadd hx hb dX0_knownByOthers_27 ?_
      refine R_iald C hd y4 h dX0_knownByOthers_28 (fun x5 h => ?_)
      refine lv_ior hx hb dX0_knownByOthers_29 ?_
      refine R_vl h (fun x6 h => ?_)
      refine lv_istore_n (lv' := [(2, .int x6), (0, .ref (gR G 130)), (1, .int l1), (3, .int l3)]) hx hb dX0_knownByOthers_30 rfl hl (by decide) rfl (fun ls hl => ?_)
      exact sBX0_knownByOthers_31 C hr hr4  hd (lv_sub hl [1, 2, 0, 3] rfl) h
def LX0_knownByOthers_4 : Nat → Int32 → Int32 → Int32 → St → Option (Int32 × St)
  | 0 => fun _ _ _ _ => none
  | n + 1 => fun l1 l2 l3 S => KX0_knownByOthers_4 (LX0_knownByOthers_4 n) l1 l2 l3 S
theorem sLX0_knownByOthers_4 (C : Cx p s m args meth c cX0_knownByOthers 4 RX0 G) (hr : meth.sig.returnType = some .int) : ∀ (n : Nat) (l1 : Int32) (l2 : Int32) (l3 : Int32) (S : St) (res : (Int32 × St)) (H : Heap) (locs : List Loc) (ls : Array Slot), Dy G S s H locs → lv_has ls 4 [(0, .ref (gR G 130)), (1, .int l1), (2, .int l2), (3, .int l3)] → LX0_knownByOthers_4 n l1 l2 l3 S = some res → W p l e (rmL 3 0 0) s m args below meth c H locs 0 0 (MQ below (QI G res.1 res.2) args s 0 0 (Ab G)) (F0 m 4 ls []) := by
  intro n
  induction n with
  | zero => intro l1 l2 l3 S res H locs ls  hd hl h; cases h
  | succ n ih =>
    intro l1 l2 l3 S res H locs ls  hd hl h
    exact sKX0_knownByOthers_4 C hr ih  hd hl h
def fX0_knownByOthers (a1 : Int32) (S : St) : Option (Int32 × St) :=
  (LX0_knownByOthers_4 FU a1 0 0 S)
set_option maxHeartbeats 4000000 in
set_option maxRecDepth 20000 in
theorem sfX0_knownByOthers (C : Cx p s m args meth c cX0_knownByOthers 4 RX0 G) (hr : meth.sig.returnType = some .int) {a1 : Int32} {S : St} {res : (Int32 × St)} {H : Heap} {locs : List Loc} {ls : Array Slot}  (hd : Dy G S s H locs) (hl : lv_has ls 4 [(0, .ref (gR G 130)), (1, .int a1)]) (h : fX0_knownByOthers a1 S = some res) : W p l e (rmL 3 0 0) s m args below meth c H locs 0 0 (MQ below (QI G res.1 res.2) args s 0 0 (Ab G)) (F0 m 0 ls []) := by
  unfold fX0_knownByOthers at h
  have hx := C.1.1
  have hb := C.1.2.1
  refine lv_iconst (v := 0) hx hb dX0_knownByOthers_0 (by decide) ?_
  refine lv_istore_n (lv' := [(2, .int 0), (0, .ref (gR G 130)), (1, .int a1)]) hx hb dX0_knownByOthers_1 rfl hl (by decide) rfl (fun ls hl => ?_)
  refine lv_iconst (v := 0) hx hb dX0_knownByOthers_2 (by decide) ?_
  refine lv_istore_n (lv' := [(3, .int 0), (2, .int 0), (0, .ref (gR G 130)), (1, .int a1)]) hx hb dX0_knownByOthers_3 rfl hl (by decide) rfl (fun ls hl => ?_)
  exact sLX0_knownByOthers_4 C hr _ a1 0 0 _ _ _ _ _  hd (lv_sub hl [2, 3, 1, 0] rfl) h
set_option maxRecDepth 20000 in
theorem ccX0_knownByOthers (l : Launch) (G : Gt) {a1 : Int32} {S : St} {res : (Int32 × St)}  (h : fX0_knownByOthers a1 S = some res) : Met l yX0_knownByOthers (wm yX0_knownByOthers cX0_knownByOthers 4 (some .int)) (rmL 3 0 0) (PcW G S [.ref (gR G 130), .int a1]) (QI G res.1 res.2) 0 0 (Ab G) := by
  refine Met.ofW (cc := cX0_knownByOthers) (maxL := 4) (ret := (some .int)) (by decide) rfl ?_
  intro p e s m args below meth c s₁ B hml hv
  obtain ⟨rfl, hK, hP⟩ := hv
  have C : Cx p s m _ meth c cX0_knownByOthers 4 RX0 G := ⟨⟨B.exec, B.bytes, hml, findClass_of_methodNamed B.named, fun w hw => atoms_spec (ws := wm yX0_knownByOthers cX0_knownByOthers 4 (some .int)) B.pre w (List.mem_cons_of_mem _ hw)⟩, B.notSynchronized, hK⟩
  have hl := lv_entry ([.ref (gR G 130), .int a1]) (n := 4) (Nat.le_of_ble_eq_true rfl)
  rw [lg_entry_eq]
  generalize (lg_sl ([.ref (gR G 130), .int a1]) ++ List.replicate (4 - (lg_sl ([.ref (gR G 130), .int a1])).length) Slot.unset).toArray = ls at hl ⊢
  exact sfX0_knownByOthers C B.returns  ⟨hP, va_S.rf⟩ hl h
def BX0_trespassesAgainst_37 (r4 : Int32 → Int32 → Int32 → St → Option (Int32 × St)) (l1 : Int32) (l2 : Int32) (l3 : Int32) (S : St) : Option (Int32 × St) :=
  vl (l3 + 1) fun x1 => (r4 l1 l2 x1 S)
set_option maxHeartbeats 4000000 in
set_option maxRecDepth 20000 in
theorem sBX0_trespassesAgainst_37 (C : Cx p s m args meth c cX0_trespassesAgainst 4 RX0 G) (hr : meth.sig.returnType = some .int) {r4 : Int32 → Int32 → Int32 → St → Option (Int32 × St)} (hr4 : ∀ (l1 : Int32) (l2 : Int32) (l3 : Int32) (S : St) (res : (Int32 × St)) (H : Heap) (locs : List Loc) (ls : Array Slot), Dy G S s H locs → lv_has ls 4 [(0, .ref (gR G 130)), (1, .int l1), (2, .int l2), (3, .int l3)] → r4 l1 l2 l3 S = some res → W p l e (rmL 3 0 0) s m args below meth c H locs 0 0 (MQ below (QI G res.1 res.2) args s 0 0 (Ab G)) (F0 m 4 ls [])) {l1 : Int32} {l2 : Int32} {l3 : Int32} {S : St} {res : (Int32 × St)} {H : Heap} {locs : List Loc} {ls : Array Slot}  (hd : Dy G S s H locs) (hl : lv_has ls 4 [(0, .ref (gR G 130)), (1, .int l1), (2, .int l2), (3, .int l3)]) (h : BX0_trespassesAgainst_37 r4 l1 l2 l3 S = some res) : W p l e (rmL 3 0 0) s m args below meth c H locs 0 0 (MQ below (QI G res.1 res.2) args s 0 0 (Ab G)) (F0 m 37 ls []) := by
  unfold BX0_trespassesAgainst_37 at h
  have hx := C.1.1
  have hb := C.1.2.1
  refine R_vi h (fun x1 ex1 h => ?_)
  refine lv_iinc (v := x1) (lv' := [(3, .int x1), (0, .ref (gR G 130)), (1, .int l1), (2, .int l2)]) hx hb dX0_trespassesAgainst_37 hl (k := 3) rfl (by rw [ex1]; rfl) (by decide) rfl (fun ls hl => ?_)
  refine lv_goto (tgt := 4) hx hb dX0_trespassesAgainst_40 (by decide) ?_
  exact hr4 l1 l2 x1 _ _ _ _ _  hd (lv_sub hl [1, 2, 3, 0] rfl) h
def KX0_trespassesAgainst_4 (r4 : Int32 → Int32 → Int32 → St → Option (Int32 × St)) (l1 : Int32) (l2 : Int32) (l3 : Int32) (S : St) : Option (Int32 × St) :=
  gm S 130 0 8 fun q1 => (if (S q1 0) ≤ l3 then ri l2 S else rd S 131 (98 + l3) fun x4 => (if x4 = l1 then rd S 135 l3 fun x7 => vl (l2 + x7) fun x8 => (BX0_trespassesAgainst_37 r4 l1 x8 l3 S) else (BX0_trespassesAgainst_37 r4 l1 l2 l3 S)))
set_option maxHeartbeats 4000000 in
set_option maxRecDepth 20000 in
theorem sKX0_trespassesAgainst_4 (C : Cx p s m args meth c cX0_trespassesAgainst 4 RX0 G) (hr : meth.sig.returnType = some .int) {r4 : Int32 → Int32 → Int32 → St → Option (Int32 × St)} (hr4 : ∀ (l1 : Int32) (l2 : Int32) (l3 : Int32) (S : St) (res : (Int32 × St)) (H : Heap) (locs : List Loc) (ls : Array Slot), Dy G S s H locs → lv_has ls 4 [(0, .ref (gR G 130)), (1, .int l1), (2, .int l2), (3, .int l3)] → r4 l1 l2 l3 S = some res → W p l e (rmL 3 0 0) s m args below meth c H locs 0 0 (MQ below (QI G res.1 res.2) args s 0 0 (Ab G)) (F0 m 4 ls [])) {l1 : Int32} {l2 : Int32} {l3 : Int32} {S : St} {res : (Int32 × St)} {H : Heap} {locs : List Loc} {ls : Array Slot}  (hd : Dy G S s H locs) (hl : lv_has ls 4 [(0, .ref (gR G 130)), (1, .int l1), (2, .int l2), (3, .int l3)]) (h : KX0_trespassesAgainst_4 r4 l1 l2 l3 S = some res) : W p l e (rmL 3 0 0) s m args below meth c H locs 0 0 (MQ below (QI G res.1 res.2) args s 0 0 (Ab G)) (F0 m 4 ls []) := by
  unfold KX0_trespassesAgainst_4 at h
  have hx := C.1.1
  have hb := C.1.2.1
  refine lv_iload_n hx hb dX0_trespassesAgainst_4 rfl (lv_at hl 3 rfl) ?_
  refine lv_aload_n hx hb dX0_trespassesAgainst_5 rfl (lv_at hl 0 rfl) ?_
  refine gX0_30 C hd (rfl : kd 130 = 0) h dX0_trespassesAgainst_6 (fun q1 kq1 h => ?_)
  refine gX0_80 C hd kq1 dX0_trespassesAgainst_9 ?_
  refine lv_icmp_ge (tgt := 43) hx hb dX0_trespassesAgainst_12 (by decide) (fun c2 => ?_) (fun c2 => ?_)
  · rw [if_pos c2] at h
    refine lv_iload_n hx hb dX0_trespassesAgainst_43 rfl (lv_at hl 2 rfl) ?_
    exact R_iret C hr hd h dX0_trespassesAgainst_44
  · rw [if_neg c2] at h
    refine lv_aload_n hx hb dX0_trespassesAgainst_15 rfl (lv_at hl 0 rfl) ?_
    refine gX0_9 C hd (rfl : kd 130 = 0) (q := 131) rfl dX0_trespassesAgainst_16 (fun y3 => ?_)
    refine lv_bipush (v := 98) hx hb dX0_trespassesAgainst_19 (by decide) ?_
    refine lv_iload_n hx hb dX0_trespassesAgainst_21 rfl (lv_at hl 3 rfl) ?_
    refine lv_iadd hx hb dX0_trespassesAgainst_22 ?_
    refine R_iald C hd y3 h dX0_trespassesAgainst_23 (fun x4 h => ?_)
    refine lv_iload_n hx hb dX0_trespassesAgainst_24 rfl (lv_at hl 1 rfl) ?_
    refine lv_icmp_ne (tgt := 37) hx hb dX0_trespassesAgainst_25 (by decide) (fun c5 => ?_) (fun c5 => ?_)
    · rw [if_neg c5] at h
      exact sBX0_trespassesAgainst_37 C hr hr4  hd (lv_sub hl [0, 1, 2, 3] rfl) h
    · rw [if_pos c5] at h
      refine lv_iload_n hx hb dX0_trespassesAgainst_28 rfl (lv_at hl 2 rfl) ?_
      refine lv_aload_n hx hb dX0_trespassesAgainst_29 rfl (lv_at hl 0 rfl) ?_
      refine gX0_24 C hd (rfl : kd 130 = 0) (q := 135) rfl dX0_trespassesAgainst_30 (fun y6 => ?_)
      refine lv_iload_n hx hb dX0_trespassesAgainst_33 rfl (lv_at hl 3 rfl) ?_
      refine R_iald C hd y6 h dX0_trespassesAgainst_34 (fun x7 h => ?_)
      refine lv_iadd hx hb dX0_trespassesAgainst_35 ?_
      refine R_vl h (fun x8 h => ?_)
      refine lv_istore_n (lv' := [(2, .int x8), (0, .ref (gR G 130)), (1, .int l1), (3, .int l3)]) hx hb dX0_trespassesAgainst_36 rfl hl (by decide) rfl (fun ls hl => ?_)
      exact sBX0_trespassesAgainst_37 C hr hr4  hd (lv_sub hl [1, 2, 0, 3] rfl) h
def LX0_trespassesAgainst_4 : Nat → Int32 → Int32 → Int32 → St → Option (Int32 × St)
  | 0 => fun _ _ _ _ => none
  | n + 1 => fun l1 l2 l3 S => KX0_trespassesAgainst_4 (LX0_trespassesAgainst_4 n) l1 l2 l3 S
theorem sLX0_trespassesAgainst_4 (C : Cx p s m args meth c cX0_trespassesAgainst 4 RX0 G) (hr : meth.sig.returnType = some .int) : ∀ (n : Nat) (l1 : Int32) (l2 : Int32) (l3 : Int32) (S : St) (res : (Int32 × St)) (H : Heap) (locs : List Loc) (ls : Array Slot), Dy G S s H locs → lv_has ls 4 [(0, .ref (gR G 130)), (1, .int l1), (2, .int l2), (3, .int l3)] → LX0_trespassesAgainst_4 n l1 l2 l3 S = some res → W p l e (rmL 3 0 0) s m args below meth c H locs 0 0 (MQ below (QI G res.1 res.2) args s 0 0 (Ab G)) (F0 m 4 ls []) := by
  intro n
  induction n with
  | zero => intro l1 l2 l3 S res H locs ls  hd hl h; cases h
  | succ n ih =>
    intro l1 l2 l3 S res H locs ls  hd hl h
    exact sKX0_trespassesAgainst_4 C hr ih  hd hl h
def fX0_trespassesAgainst (a1 : Int32) (S : St) : Option (Int32 × St) :=
  (LX0_trespassesAgainst_4 FU a1 0 0 S)
set_option maxHeartbeats 4000000 in
set_option maxRecDepth 20000 in
theorem sfX0_trespassesAgainst (C : Cx p s m args meth c cX0_trespassesAgainst 4 RX0 G) (hr : meth.sig.returnType = some .int) {a1 : Int32} {S : St} {res : (Int32 × St)} {H : Heap} {locs : List Loc} {ls : Array Slot}  (hd : Dy G S s H locs) (hl : lv_has ls 4 [(0, .ref (gR G 130)), (1, .int a1)]) (h : fX0_trespassesAgainst a1 S = some res) : W p l e (rmL 3 0 0) s m args below meth c H locs 0 0 (MQ below (QI G res.1 res.2) args s 0 0 (Ab G)) (F0 m 0 ls []) := by
  unfold fX0_trespassesAgainst at h
  have hx := C.1.1
  have hb := C.1.2.1
  refine lv_iconst (v := 0) hx hb dX0_trespassesAgainst_0 (by decide) ?_
  refine lv_istore_n (lv' := [(2, .int 0), (0, .ref (gR G 130)), (1, .int a1)]) hx hb dX0_trespassesAgainst_1 rfl hl (by decide) rfl (fun ls hl => ?_)
  refine lv_iconst (v := 0) hx hb dX0_trespassesAgainst_2 (by decide) ?_
  refine lv_istore_n (lv' := [(3, .int 0), (2, .int 0), (0, .ref (gR G 130)), (1, .int a1)]) hx hb dX0_trespassesAgainst_3 rfl hl (by decide) rfl (fun ls hl => ?_)
  exact sLX0_trespassesAgainst_4 C hr _ a1 0 0 _ _ _ _ _  hd (lv_sub hl [2, 3, 1, 0] rfl) h
set_option maxRecDepth 20000 in
theorem ccX0_trespassesAgainst (l : Launch) (G : Gt) {a1 : Int32} {S : St} {res : (Int32 × St)}  (h : fX0_trespassesAgainst a1 S = some res) : Met l yX0_trespassesAgainst (wm yX0_trespassesAgainst cX0_trespassesAgainst 4 (some .int)) (rmL 3 0 0) (PcW G S [.ref (gR G 130), .int a1]) (QI G res.1 res.2) 0 0 (Ab G) := by
  refine Met.ofW (cc := cX0_trespassesAgainst) (maxL := 4) (ret := (some .int)) (by decide) rfl ?_
  intro p e s m args below meth c s₁ B hml hv
  obtain ⟨rfl, hK, hP⟩ := hv
  have C : Cx p s m _ meth c cX0_trespassesAgainst 4 RX0 G := ⟨⟨B.exec, B.bytes, hml, findClass_of_methodNamed B.named, fun w hw => atoms_spec (ws := wm yX0_trespassesAgainst cX0_trespassesAgainst 4 (some .int)) B.pre w (List.mem_cons_of_mem _ hw)⟩, B.notSynchronized, hK⟩
  have hl := lv_entry ([.ref (gR G 130), .int a1]) (n := 4) (Nat.le_of_ble_eq_true rfl)
  rw [lg_entry_eq]
  generalize (lg_sl ([.ref (gR G 130), .int a1]) ++ List.replicate (4 - (lg_sl ([.ref (gR G 130), .int a1])).length) Slot.unset).toArray = ls at hl ⊢
  exact sfX0_trespassesAgainst C B.returns  ⟨hP, va_S.rf⟩ hl h
def BX0_leastSungIn_57 (r4 : Int32 → Int32 → Int32 → St → Option (Int32 × St)) (l1 : Int32) (l2 : Int32) (l3 : Int32) (S : St) : Option (Int32 × St) :=
  vl (l3 + 1) fun x1 => (r4 l1 l2 x1 S)
set_option maxHeartbeats 4000000 in
set_option maxRecDepth 20000 in
theorem sBX0_leastSungIn_57 (C : Cx p s m args meth c cX0_leastSungIn 4 RX0 G) (hr : meth.sig.returnType = some .int) {r4 : Int32 → Int32 → Int32 → St → Option (Int32 × St)} (hr4 : ∀ (l1 : Int32) (l2 : Int32) (l3 : Int32) (S : St) (res : (Int32 × St)) (H : Heap) (locs : List Loc) (ls : Array Slot), Dy G S s H locs → lv_has ls 4 [(0, .ref (gR G 130)), (1, .int l1), (2, .int l2), (3, .int l3)] → r4 l1 l2 l3 S = some res → W p l e (rmL 3 0 0) s m args below meth c H locs 0 0 (MQ below (QI G res.1 res.2) args s 0 0 (Ab G)) (F0 m 4 ls [])) {l1 : Int32} {l2 : Int32} {l3 : Int32} {S : St} {res : (Int32 × St)} {H : Heap} {locs : List Loc} {ls : Array Slot}  (hd : Dy G S s H locs) (hl : lv_has ls 4 [(0, .ref (gR G 130)), (1, .int l1), (2, .int l2), (3, .int l3)]) (h : BX0_leastSungIn_57 r4 l1 l2 l3 S = some res) : W p l e (rmL 3 0 0) s m args below meth c H locs 0 0 (MQ below (QI G res.1 res.2) args s 0 0 (Ab G)) (F0 m 57 ls []) := by
  unfold BX0_leastSungIn_57 at h
  have hx := C.1.1
  have hb := C.1.2.1
  refine R_vi h (fun x1 ex1 h => ?_)
  refine lv_iinc (v := x1) (lv' := [(3, .int x1), (0, .ref (gR G 130)), (1, .int l1), (2, .int l2)]) hx hb dX0_leastSungIn_57 hl (k := 3) rfl (by rw [ex1]; rfl) (by decide) rfl (fun ls hl => ?_)
  refine lv_goto (tgt := 4) hx hb dX0_leastSungIn_60 (by decide) ?_
  exact hr4 l1 l2 x1 _ _ _ _ _  hd (lv_sub hl [1, 2, 3, 0] rfl) h
def BX0_leastSungIn_50 (r4 : Int32 → Int32 → Int32 → St → Option (Int32 × St)) (l1 : Int32) (l3 : Int32) (S : St) : Option (Int32 × St) :=
  rd S 133 l3 fun x2 => (BX0_leastSungIn_57 r4 l1 x2 l3 S)
set_option maxHeartbeats 4000000 in
set_option maxRecDepth 20000 in
theorem sBX0_leastSungIn_50 (C : Cx p s m args meth c cX0_leastSungIn 4 RX0 G) (hr : meth.sig.returnType = some .int) {r4 : Int32 → Int32 → Int32 → St → Option (Int32 × St)} (hr4 : ∀ (l1 : Int32) (l2 : Int32) (l3 : Int32) (S : St) (res : (Int32 × St)) (H : Heap) (locs : List Loc) (ls : Array Slot), Dy G S s H locs → lv_has ls 4 [(0, .ref (gR G 130)), (1, .int l1), (2, .int l2), (3, .int l3)] → r4 l1 l2 l3 S = some res → W p l e (rmL 3 0 0) s m args below meth c H locs 0 0 (MQ below (QI G res.1 res.2) args s 0 0 (Ab G)) (F0 m 4 ls [])) {l1 : Int32} {l3 : Int32} {S : St} {res : (Int32 × St)} {H : Heap} {locs : List Loc} {ls : Array Slot}  (hd : Dy G S s H locs) (hl : lv_has ls 4 [(0, .ref (gR G 130)), (1, .int l1), (3, .int l3)]) (h : BX0_leastSungIn_50 r4 l1 l3 S = some res) : W p l e (rmL 3 0 0) s m args below meth c H locs 0 0 (MQ below (QI G res.1 res.2) args s 0 0 (Ab G)) (F0 m 50 ls []) := by
  unfold BX0_leastSungIn_50 at h
  have hx := C.1.1
  have hb := C.1.2.1
  refine lv_aload_n hx hb dX0_leastSungIn_50 rfl (lv_at hl 0 rfl) ?_
  refine gX0_18 C hd (rfl : kd 130 = 0) (q := 133) rfl dX0_leastSungIn_51 (fun y1 => ?_)
  refine lv_iload_n hx hb dX0_leastSungIn_54 rfl (lv_at hl 2 rfl) ?_
  refine R_iald C hd y1 h dX0_leastSungIn_55 (fun x2 h => ?_)
  refine lv_istore_n (lv' := [(2, .int x2), (0, .ref (gR G 130)), (1, .int l1), (3, .int l3)]) hx hb dX0_leastSungIn_56 rfl hl (by decide) rfl (fun ls hl => ?_)
  exact sBX0_leastSungIn_57 C hr hr4  hd (lv_sub hl [1, 2, 0, 3] rfl) h
def KX0_leastSungIn_4 (r4 : Int32 → Int32 → Int32 → St → Option (Int32 × St)) (l1 : Int32) (l2 : Int32) (l3 : Int32) (S : St) : Option (Int32 × St) :=
  gm S 130 0 8 fun q1 => (if (S q1 2) ≤ l3 then ri l2 S else rd S 132 l3 fun x4 => (if x4 = l1 then rd S 133 l3 fun x7 => (if x7 = (-1) then (BX0_leastSungIn_57 r4 l1 l2 l3 S) else (if l2 = (-1) then (BX0_leastSungIn_50 r4 l1 l3 S) else rd S 133 l3 fun x11 => (if l2 ≤ x11 then (BX0_leastSungIn_57 r4 l1 l2 l3 S) else (BX0_leastSungIn_50 r4 l1 l3 S)))) else (BX0_leastSungIn_57 r4 l1 l2 l3 S)))
set_option maxHeartbeats 4000000 in
set_option maxRecDepth 20000 in
theorem sKX0_leastSungIn_4 (C : Cx p s m args meth c cX0_leastSungIn 4 RX0 G) (hr : meth.sig.returnType = some .int) {r4 : Int32 → Int32 → Int32 → St → Option (Int32 × St)} (hr4 : ∀ (l1 : Int32) (l2 : Int32) (l3 : Int32) (S : St) (res : (Int32 × St)) (H : Heap) (locs : List Loc) (ls : Array Slot), Dy G S s H locs → lv_has ls 4 [(0, .ref (gR G 130)), (1, .int l1), (2, .int l2), (3, .int l3)] → r4 l1 l2 l3 S = some res → W p l e (rmL 3 0 0) s m args below meth c H locs 0 0 (MQ below (QI G res.1 res.2) args s 0 0 (Ab G)) (F0 m 4 ls [])) {l1 : Int32} {l2 : Int32} {l3 : Int32} {S : St} {res : (Int32 × St)} {H : Heap} {locs : List Loc} {ls : Array Slot}  (hd : Dy G S s H locs) (hl : lv_has ls 4 [(0, .ref (gR G 130)), (1, .int l1), (2, .int l2), (3, .int l3)]) (h : KX0_leastSungIn_4 r4 l1 l2 l3 S = some res) : W p l e (rmL 3 0 0) s m args below meth c H locs 0 0 (MQ below (QI G res.1 res.2) args s 0 0 (Ab G)) (F0 m 4 ls []) := by
  unfold KX0_leastSungIn_4 at h
  have hx := C.1.1
  have hb := C.1.2.1
  refine lv_iload_n hx hb dX0_leastSungIn_4 rfl (lv_at hl 3 rfl) ?_
  refine lv_aload_n hx hb dX0_leastSungIn_5 rfl (lv_at hl 0 rfl) ?_
  refine gX0_30 C hd (rfl : kd 130 = 0) h dX0_leastSungIn_6 (fun q1 kq1 h => ?_)
  refine gX0_49 C hd kq1 dX0_leastSungIn_9 ?_
  refine lv_icmp_ge (tgt := 63) hx hb dX0_leastSungIn_12 (by decide) (fun c2 => ?_) (fun c2 => ?_)
  · rw [if_pos c2] at h
    refine lv_iload_n hx hb dX0_leastSungIn_63 rfl (lv_at hl 2 rfl) ?_
    exact R_iret C hr hd h dX0_leastSungIn_64
  · rw [if_neg c2] at h
    refine lv_aload_n hx hb dX0_leastSungIn_15 rfl (lv_at hl 0 rfl) ?_
    refine gX0_15 C hd (rfl : kd 130 = 0) (q := 132) rfl dX0_leastSungIn_16 (fun y3 => ?_)
    refine lv_iload_n hx hb dX0_leastSungIn_19 rfl (lv_at hl 3 rfl) ?_
    refine R_iald C hd y3 h dX0_leastSungIn_20 (fun x4 h => ?_)
    refine lv_iload_n hx hb dX0_leastSungIn_21 rfl (lv_at hl 1 rfl) ?_
    refine lv_icmp_ne (tgt := 57) hx hb dX0_leastSungIn_22 (by decide) (fun c5 => ?_) (fun c5 => ?_)
    · rw [if_neg c5] at h
      exact sBX0_leastSungIn_57 C hr hr4  hd (lv_sub hl [0, 1, 2, 3] rfl) h
    · rw [if_pos c5] at h
      refine lv_aload_n hx hb dX0_leastSungIn_25 rfl (lv_at hl 0 rfl) ?_
      refine gX0_18 C hd (rfl : kd 130 = 0) (q := 133) rfl dX0_leastSungIn_26 (fun y6 => ?_)
      refine lv_iload_n hx hb dX0_leastSungIn_29 rfl (lv_at hl 3 rfl) ?_
      refine R_iald C hd y6 h dX0_leastSungIn_30 (fun x7 h => ?_)
      refine lv_iconst (v := -1) hx hb dX0_leastSungIn_31 (by decide) ?_
      refine lv_icmp_eq (tgt := 57) hx hb dX0_leastSungIn_32 (by decide) (fun c8 => ?_) (fun c8 => ?_)
      · rw [if_pos c8] at h
        exact sBX0_leastSungIn_57 C hr hr4  hd (lv_sub hl [0, 1, 2, 3] rfl) h
      · rw [if_neg c8] at h
        refine lv_iload_n hx hb dX0_leastSungIn_35 rfl (lv_at hl 2 rfl) ?_
        refine lv_iconst (v := -1) hx hb dX0_leastSungIn_36 (by decide) ?_
        refine lv_icmp_eq (tgt := 50) hx hb dX0_leastSungIn_37 (by decide) (fun c9 => ?_) (fun c9 => ?_)
        · rw [if_pos c9] at h
          exact sBX0_leastSungIn_50 C hr hr4  hd (lv_sub hl [0, 1, 3] rfl) h
        · rw [if_neg c9] at h
          refine lv_aload_n hx hb dX0_leastSungIn_40 rfl (lv_at hl 0 rfl) ?_
          refine gX0_18 C hd (rfl : kd 130 = 0) (q := 133) rfl dX0_leastSungIn_41 (fun y10 => ?_)
          refine lv_iload_n hx hb dX0_leastSungIn_44 rfl (lv_at hl 3 rfl) ?_
          refine R_iald C hd y10 h dX0_leastSungIn_45 (fun x11 h => ?_)
          refine lv_iload_n hx hb dX0_leastSungIn_46 rfl (lv_at hl 2 rfl) ?_
          refine lv_icmp_ge (tgt := 57) hx hb dX0_leastSungIn_47 (by decide) (fun c12 => ?_) (fun c12 => ?_)
          · rw [if_pos c12] at h
            exact sBX0_leastSungIn_57 C hr hr4  hd (lv_sub hl [0, 1, 2, 3] rfl) h
          · rw [if_neg c12] at h
            exact sBX0_leastSungIn_50 C hr hr4  hd (lv_sub hl [0, 1, 3] rfl) h
def LX0_leastSungIn_4 : Nat → Int32 → Int32 → Int32 → St → Option (Int32 × St)
  | 0 => fun _ _ _ _ => none
  | n + 1 => fun l1 l2 l3 S => KX0_leastSungIn_4 (LX0_leastSungIn_4 n) l1 l2 l3 S
theorem sLX0_leastSungIn_4 (C : Cx p s m args meth c cX0_leastSungIn 4 RX0 G) (hr : meth.sig.returnType = some .int) : ∀ (n : Nat) (l1 : Int32) (l2 : Int32) (l3 : Int32) (S : St) (res : (Int32 × St)) (H : Heap) (locs : List Loc) (ls : Array Slot), Dy G S s H locs → lv_has ls 4 [(0, .ref (gR G 130)), (1, .int l1), (2, .int l2), (3, .int l3)] → LX0_leastSungIn_4 n l1 l2 l3 S = some res → W p l e (rmL 3 0 0) s m args below meth c H locs 0 0 (MQ below (QI G res.1 res.2) args s 0 0 (Ab G)) (F0 m 4 ls []) := by
  intro n
  induction n with
  | zero => intro l1 l2 l3 S res H locs ls  hd hl h; cases h
  | succ n ih =>
    intro l1 l2 l3 S res H locs ls  hd hl h
    exact sKX0_leastSungIn_4 C hr ih  hd hl h
def fX0_leastSungIn (a1 : Int32) (S : St) : Option (Int32 × St) :=
  (LX0_leastSungIn_4 FU a1 ((-1)) 0 S)
set_option maxHeartbeats 4000000 in
set_option maxRecDepth 20000 in
theorem sfX0_leastSungIn (C : Cx p s m args meth c cX0_leastSungIn 4 RX0 G) (hr : meth.sig.returnType = some .int) {a1 : Int32} {S : St} {res : (Int32 × St)} {H : Heap} {locs : List Loc} {ls : Array Slot}  (hd : Dy G S s H locs) (hl : lv_has ls 4 [(0, .ref (gR G 130)), (1, .int a1)]) (h : fX0_leastSungIn a1 S = some res) : W p l e (rmL 3 0 0) s m args below meth c H locs 0 0 (MQ below (QI G res.1 res.2) args s 0 0 (Ab G)) (F0 m 0 ls []) := by
  unfold fX0_leastSungIn at h
  have hx := C.1.1
  have hb := C.1.2.1
  refine lv_iconst (v := -1) hx hb dX0_leastSungIn_0 (by decide) ?_
  refine lv_istore_n (lv' := [(2, .int ((-1))), (0, .ref (gR G 130)), (1, .int a1)]) hx hb dX0_leastSungIn_1 rfl hl (by decide) rfl (fun ls hl => ?_)
  refine lv_iconst (v := 0) hx hb dX0_leastSungIn_2 (by decide) ?_
  refine lv_istore_n (lv' := [(3, .int 0), (2, .int ((-1))), (0, .ref (gR G 130)), (1, .int a1)]) hx hb dX0_leastSungIn_3 rfl hl (by decide) rfl (fun ls hl => ?_)
  exact sLX0_leastSungIn_4 C hr _ a1 ((-1)) 0 _ _ _ _ _  hd (lv_sub hl [2, 3, 1, 0] rfl) h
set_option maxRecDepth 20000 in
theorem ccX0_leastSungIn (l : Launch) (G : Gt) {a1 : Int32} {S : St} {res : (Int32 × St)}  (h : fX0_leastSungIn a1 S = some res) : Met l yX0_leastSungIn (wm yX0_leastSungIn cX0_leastSungIn 4 (some .int)) (rmL 3 0 0) (PcW G S [.ref (gR G 130), .int a1]) (QI G res.1 res.2) 0 0 (Ab G) := by
  refine Met.ofW (cc := cX0_leastSungIn) (maxL := 4) (ret := (some .int)) (by decide) rfl ?_
  intro p e s m args below meth c s₁ B hml hv
  obtain ⟨rfl, hK, hP⟩ := hv
  have C : Cx p s m _ meth c cX0_leastSungIn 4 RX0 G := ⟨⟨B.exec, B.bytes, hml, findClass_of_methodNamed B.named, fun w hw => atoms_spec (ws := wm yX0_leastSungIn cX0_leastSungIn 4 (some .int)) B.pre w (List.mem_cons_of_mem _ hw)⟩, B.notSynchronized, hK⟩
  have hl := lv_entry ([.ref (gR G 130), .int a1]) (n := 4) (Nat.le_of_ble_eq_true rfl)
  rw [lg_entry_eq]
  generalize (lg_sl ([.ref (gR G 130), .int a1]) ++ List.replicate (4 - (lg_sl ([.ref (gR G 130), .int a1])).length) Slot.unset).toArray = ls at hl ⊢
  exact sfX0_leastSungIn C B.returns  ⟨hP, va_S.rf⟩ hl h
def BX0_wasSungIn_55 (r22 : Int32 → Int32 → Int32 → St → Option (Int32 × St)) (l1 : Int32) (l2 : Int32) (l3 : Int32) (S : St) : Option (Int32 × St) :=
  vl (l3 + 1) fun x1 => (r22 l1 l2 x1 S)
set_option maxHeartbeats 4000000 in
set_option maxRecDepth 20000 in
theorem sBX0_wasSungIn_55 (C : Cx p s m args meth c cX0_wasSungIn 4 RX0 G) (hr : meth.sig.returnType = some .boolean) {r22 : Int32 → Int32 → Int32 → St → Option (Int32 × St)} (hr22 : ∀ (l1 : Int32) (l2 : Int32) (l3 : Int32) (S : St) (res : (Int32 × St)) (H : Heap) (locs : List Loc) (ls : Array Slot), Dy G S s H locs → lv_has ls 4 [(0, .ref (gR G 130)), (1, .int l1), (2, .int l2), (3, .int l3)] → r22 l1 l2 l3 S = some res → W p l e (rmL 4 0 0) s m args below meth c H locs 0 0 (MQ below (QI G res.1 res.2) args s 0 0 (Ab G)) (F0 m 22 ls [])) {l1 : Int32} {l2 : Int32} {l3 : Int32} {S : St} {res : (Int32 × St)} {H : Heap} {locs : List Loc} {ls : Array Slot}  (hd : Dy G S s H locs) (hl : lv_has ls 4 [(0, .ref (gR G 130)), (1, .int l1), (2, .int l2), (3, .int l3)]) (h : BX0_wasSungIn_55 r22 l1 l2 l3 S = some res) : W p l e (rmL 4 0 0) s m args below meth c H locs 0 0 (MQ below (QI G res.1 res.2) args s 0 0 (Ab G)) (F0 m 55 ls []) := by
  unfold BX0_wasSungIn_55 at h
  have hx := C.1.1
  have hb := C.1.2.1
  refine R_vi h (fun x1 ex1 h => ?_)
  refine lv_iinc (v := x1) (lv' := [(3, .int x1), (0, .ref (gR G 130)), (1, .int l1), (2, .int l2)]) hx hb dX0_wasSungIn_55 hl (k := 3) rfl (by rw [ex1]; rfl) (by decide) rfl (fun ls hl => ?_)
  refine lv_goto (tgt := 22) hx hb dX0_wasSungIn_58 (by decide) ?_
  exact hr22 l1 l2 x1 _ _ _ _ _  hd (lv_sub hl [1, 2, 3, 0] rfl) h
def KX0_wasSungIn_22 (r22 : Int32 → Int32 → Int32 → St → Option (Int32 × St)) (l1 : Int32) (l2 : Int32) (l3 : Int32) (S : St) : Option (Int32 × St) :=
  gm S 130 0 8 fun q1 => (if (S q1 2) ≤ l3 then rz 0 S else rd S 132 l3 fun x4 => (if x4 = l1 then rd S 133 l3 fun x7 => (if x7 = l2 then rz 1 S else (BX0_wasSungIn_55 r22 l1 l2 l3 S)) else (BX0_wasSungIn_55 r22 l1 l2 l3 S)))
set_option maxHeartbeats 4000000 in
set_option maxRecDepth 20000 in
theorem sKX0_wasSungIn_22 (C : Cx p s m args meth c cX0_wasSungIn 4 RX0 G) (hr : meth.sig.returnType = some .boolean) {r22 : Int32 → Int32 → Int32 → St → Option (Int32 × St)} (hr22 : ∀ (l1 : Int32) (l2 : Int32) (l3 : Int32) (S : St) (res : (Int32 × St)) (H : Heap) (locs : List Loc) (ls : Array Slot), Dy G S s H locs → lv_has ls 4 [(0, .ref (gR G 130)), (1, .int l1), (2, .int l2), (3, .int l3)] → r22 l1 l2 l3 S = some res → W p l e (rmL 4 0 0) s m args below meth c H locs 0 0 (MQ below (QI G res.1 res.2) args s 0 0 (Ab G)) (F0 m 22 ls [])) {l1 : Int32} {l2 : Int32} {l3 : Int32} {S : St} {res : (Int32 × St)} {H : Heap} {locs : List Loc} {ls : Array Slot}  (hd : Dy G S s H locs) (hl : lv_has ls 4 [(0, .ref (gR G 130)), (1, .int l1), (2, .int l2), (3, .int l3)]) (h : KX0_wasSungIn_22 r22 l1 l2 l3 S = some res) : W p l e (rmL 4 0 0) s m args below meth c H locs 0 0 (MQ below (QI G res.1 res.2) args s 0 0 (Ab G)) (F0 m 22 ls []) := by
  unfold KX0_wasSungIn_22 at h
  have hx := C.1.1
  have hb := C.1.2.1
  refine lv_iload_n hx hb dX0_wasSungIn_22 rfl (lv_at hl 3 rfl) ?_
  refine lv_aload_n hx hb dX0_wasSungIn_23 rfl (lv_at hl 0 rfl) ?_
  refine gX0_30 C hd (rfl : kd 130 = 0) h dX0_wasSungIn_24 (fun q1 kq1 h => ?_)
  refine gX0_49 C hd kq1 dX0_wasSungIn_27 ?_
  refine lv_icmp_ge (tgt := 61) hx hb dX0_wasSungIn_30 (by decide) (fun c2 => ?_) (fun c2 => ?_)
  · rw [if_pos c2] at h
    refine lv_iconst (v := 0) hx hb dX0_wasSungIn_61 (by decide) ?_
    exact R_zret C hr hd h dX0_wasSungIn_62
  · rw [if_neg c2] at h
    refine lv_aload_n hx hb dX0_wasSungIn_33 rfl (lv_at hl 0 rfl) ?_
    refine gX0_15 C hd (rfl : kd 130 = 0) (q := 132) rfl dX0_wasSungIn_34 (fun y3 => ?_)
    refine lv_iload_n hx hb dX0_wasSungIn_37 rfl (lv_at hl 3 rfl) ?_
    refine R_iald C hd y3 h dX0_wasSungIn_38 (fun x4 h => ?_)
    refine lv_iload_n hx hb dX0_wasSungIn_39 rfl (lv_at hl 1 rfl) ?_
    refine lv_icmp_ne (tgt := 55) hx hb dX0_wasSungIn_40 (by decide) (fun c5 => ?_) (fun c5 => ?_)
    · rw [if_neg c5] at h
      exact sBX0_wasSungIn_55 C hr hr22  hd (lv_sub hl [0, 1, 2, 3] rfl) h
    · rw [if_pos c5] at h
      refine lv_aload_n hx hb dX0_wasSungIn_43 rfl (lv_at hl 0 rfl) ?_
      refine gX0_18 C hd (rfl : kd 130 = 0) (q := 133) rfl dX0_wasSungIn_44 (fun y6 => ?_)
      refine lv_iload_n hx hb dX0_wasSungIn_47 rfl (lv_at hl 3 rfl) ?_
      refine R_iald C hd y6 h dX0_wasSungIn_48 (fun x7 h => ?_)
      refine lv_iload_n hx hb dX0_wasSungIn_49 rfl (lv_at hl 2 rfl) ?_
      refine lv_icmp_ne (tgt := 55) hx hb dX0_wasSungIn_50 (by decide) (fun c8 => ?_) (fun c8 => ?_)
      · rw [if_neg c8] at h
        exact sBX0_wasSungIn_55 C hr hr22  hd (lv_sub hl [0, 1, 2, 3] rfl) h
      · rw [if_pos c8] at h
        refine lv_iconst (v := 1) hx hb dX0_wasSungIn_53 (by decide) ?_
        exact R_zret C hr hd h dX0_wasSungIn_54
def LX0_wasSungIn_22 : Nat → Int32 → Int32 → Int32 → St → Option (Int32 × St)
  | 0 => fun _ _ _ _ => none
  | n + 1 => fun l1 l2 l3 S => KX0_wasSungIn_22 (LX0_wasSungIn_22 n) l1 l2 l3 S
theorem sLX0_wasSungIn_22 (C : Cx p s m args meth c cX0_wasSungIn 4 RX0 G) (hr : meth.sig.returnType = some .boolean) : ∀ (n : Nat) (l1 : Int32) (l2 : Int32) (l3 : Int32) (S : St) (res : (Int32 × St)) (H : Heap) (locs : List Loc) (ls : Array Slot), Dy G S s H locs → lv_has ls 4 [(0, .ref (gR G 130)), (1, .int l1), (2, .int l2), (3, .int l3)] → LX0_wasSungIn_22 n l1 l2 l3 S = some res → W p l e (rmL 4 0 0) s m args below meth c H locs 0 0 (MQ below (QI G res.1 res.2) args s 0 0 (Ab G)) (F0 m 22 ls []) := by
  intro n
  induction n with
  | zero => intro l1 l2 l3 S res H locs ls  hd hl h; cases h
  | succ n ih =>
    intro l1 l2 l3 S res H locs ls  hd hl h
    exact sKX0_wasSungIn_22 C hr ih  hd hl h
def fX0_wasSungIn (a1 : Int32) (a2 : Int32) (S : St) : Option (Int32 × St) :=
  (if a2 = (-1) then bd (fX0_leastSungIn a1 S) fun x2 S => (if x2 = (-1) then rz 1 S else rz 0 S) else (LX0_wasSungIn_22 FU a1 a2 0 S))
set_option maxHeartbeats 4000000 in
set_option maxRecDepth 20000 in
theorem sfX0_wasSungIn (C : Cx p s m args meth c cX0_wasSungIn 4 RX0 G) (hr : meth.sig.returnType = some .boolean) {a1 : Int32} {a2 : Int32} {S : St} {res : (Int32 × St)} {H : Heap} {locs : List Loc} {ls : Array Slot}  (hd : Dy G S s H locs) (hl : lv_has ls 4 [(0, .ref (gR G 130)), (1, .int a1), (2, .int a2)]) (h : fX0_wasSungIn a1 a2 S = some res) : W p l e (rmL 4 0 0) s m args below meth c H locs 0 0 (MQ below (QI G res.1 res.2) args s 0 0 (Ab G)) (F0 m 0 ls []) := by
  unfold fX0_wasSungIn at h
  have hx := C.1.1
  have hb := C.1.2.1
  refine lv_iload_n hx hb dX0_wasSungIn_0 rfl (lv_at hl 2 rfl) ?_
  refine lv_iconst (v := -1) hx hb dX0_wasSungIn_1 (by decide) ?_
  refine lv_icmp_ne (tgt := 20) hx hb dX0_wasSungIn_2 (by decide) (fun c1 => ?_) (fun c1 => ?_)
  · rw [if_neg c1] at h
    refine lv_iconst (v := 0) hx hb dX0_wasSungIn_20 (by decide) ?_
    refine lv_istore_n (lv' := [(3, .int 0), (0, .ref (gR G 130)), (1, .int a1), (2, .int a2)]) hx hb dX0_wasSungIn_21 rfl hl (by decide) rfl (fun ls hl => ?_)
    exact sLX0_wasSungIn_22 C hr _ a1 a2 0 _ _ _ _ _  hd (lv_sub hl [1, 2, 3, 0] rfl) h
  · rw [if_pos c1] at h
    refine lv_aload_n hx hb dX0_wasSungIn_5 rfl (lv_at hl 0 rfl) ?_
    refine lv_iload_n hx hb dX0_wasSungIn_6 rfl (lv_at hl 1 rfl) ?_
    obtain ⟨x2, S1, hc, h⟩ := bd_some h
    refine R_cVi C hd (ccX0_leastSungIn l G  hc) kX0_131 rfl (by decide) (rfl : kd 130 = 0) hl.1 ⟨by decide, by decide⟩ rfl rfl (Nat.le_of_ble_eq_true rfl) dX0_wasSungIn_7 ⟨Nat.zero_le _, Nat.zero_le _⟩ (fun H locs hd => ?_)
    generalize S1 = S at h hd
    refine lv_iconst (v := -1) hx hb dX0_wasSungIn_10 (by decide) ?_
    refine lv_icmp_ne (tgt := 18) hx hb dX0_wasSungIn_11 (by decide) (fun c3 => ?_) (fun c3 => ?_)
    · rw [if_neg c3] at h
      refine lv_iconst (v := 0) hx hb dX0_wasSungIn_18 (by decide) ?_
      exact R_zret C hr hd h dX0_wasSungIn_19
    · rw [if_pos c3] at h
      refine lv_iconst (v := 1) hx hb dX0_wasSungIn_14 (by decide) ?_
      refine lv_goto (tgt := 19) hx hb dX0_wasSungIn_15 (by decide) ?_
      exact R_zret C hr hd h dX0_wasSungIn_19
set_option maxRecDepth 20000 in
theorem ccX0_wasSungIn (l : Launch) (G : Gt) {a1 : Int32} {a2 : Int32} {S : St} {res : (Int32 × St)}  (h : fX0_wasSungIn a1 a2 S = some res) : Met l yX0_wasSungIn (wm yX0_wasSungIn cX0_wasSungIn 4 (some .boolean)) (rmL 4 0 0) (PcW G S [.ref (gR G 130), .int a1, .int a2]) (QI G res.1 res.2) 0 0 (Ab G) := by
  refine Met.ofW (cc := cX0_wasSungIn) (maxL := 4) (ret := (some .boolean)) (by decide) rfl ?_
  intro p e s m args below meth c s₁ B hml hv
  obtain ⟨rfl, hK, hP⟩ := hv
  have C : Cx p s m _ meth c cX0_wasSungIn 4 RX0 G := ⟨⟨B.exec, B.bytes, hml, findClass_of_methodNamed B.named, fun w hw => atoms_spec (ws := wm yX0_wasSungIn cX0_wasSungIn 4 (some .boolean)) B.pre w (List.mem_cons_of_mem _ hw)⟩, B.notSynchronized, hK⟩
  have hl := lv_entry ([.ref (gR G 130), .int a1, .int a2]) (n := 4) (Nat.le_of_ble_eq_true rfl)
  rw [lg_entry_eq]
  generalize (lg_sl ([.ref (gR G 130), .int a1, .int a2]) ++ List.replicate (4 - (lg_sl ([.ref (gR G 130), .int a1, .int a2])).length) Slot.unset).toArray = ls at hl ⊢
  exact sfX0_wasSungIn C B.returns  ⟨hP, va_S.rf⟩ hl h
def fX0_nextSeed (a0 : Int32) (S : St) : Option (Int32 × St) :=
  ri ((a0 * 1103515245) + 12345) S
set_option maxHeartbeats 4000000 in
set_option maxRecDepth 20000 in
theorem sfX0_nextSeed (C : Cx p s m args meth c cX0_nextSeed 1 RX0 G) (hr : meth.sig.returnType = some .int) {a0 : Int32} {S : St} {res : (Int32 × St)} {H : Heap} {locs : List Loc} {ls : Array Slot}  (hd : Dy G S s H locs) (hl : lv_has ls 1 [(0, .int a0)]) (h : fX0_nextSeed a0 S = some res) : W p l e (rmL 3 0 0) s m args below meth c H locs 0 0 (MQ below (QI G res.1 res.2) args s 0 0 (Ab G)) (F0 m 0 ls []) := by
  unfold fX0_nextSeed at h
  have hx := C.1.1
  have hb := C.1.2.1
  refine lv_iload_n hx hb dX0_nextSeed_0 rfl (lv_at hl 0 rfl) ?_
  refine lv_ldc hx hb C.1.2.2.2.1 (C.1.2.2.2.2 _ kcX0_137) dX0_nextSeed_1 ?_
  refine lv_imul hx hb dX0_nextSeed_3 ?_
  refine lv_sipush (v := 12345) hx hb dX0_nextSeed_4 (by decide) ?_
  refine lv_iadd hx hb dX0_nextSeed_7 ?_
  exact R_iret C hr hd h dX0_nextSeed_8
set_option maxRecDepth 20000 in
theorem ccX0_nextSeed (l : Launch) (G : Gt) {a0 : Int32} {S : St} {res : (Int32 × St)}  (h : fX0_nextSeed a0 S = some res) : Met l yX0_nextSeed (wm yX0_nextSeed cX0_nextSeed 1 (some .int)) (rmL 3 0 0) (PcW G S [.int a0]) (QI G res.1 res.2) 0 0 (Ab G) := by
  refine Met.ofW (cc := cX0_nextSeed) (maxL := 1) (ret := (some .int)) (by decide) rfl ?_
  intro p e s m args below meth c s₁ B hml hv
  obtain ⟨rfl, hK, hP⟩ := hv
  have C : Cx p s m _ meth c cX0_nextSeed 1 RX0 G := ⟨⟨B.exec, B.bytes, hml, findClass_of_methodNamed B.named, fun w hw => atoms_spec (ws := wm yX0_nextSeed cX0_nextSeed 1 (some .int)) B.pre w (List.mem_cons_of_mem _ hw)⟩, B.notSynchronized, hK⟩
  have hl := lv_entry ([.int a0]) (n := 1) (Nat.le_of_ble_eq_true rfl)
  rw [lg_entry_eq]
  generalize (lg_sl ([.int a0]) ++ List.replicate (1 - (lg_sl ([.int a0])).length) Slot.unset).toArray = ls at hl ⊢
  exact sfX0_nextSeed C B.returns  ⟨hP, va_S.rf⟩ hl h
def BX0_goWithLarks_96 (r5 : Int32 → Int32 → Int32 → St → Option St) (l2 : Int32) (l3 : Int32) (l4 : Int32) (S : St) : Option St :=
  bv (fX0_goHour  S) fun S => vl (l4 + 1) fun x1 => (r5 l2 l3 x1 S)
set_option maxHeartbeats 4000000 in
set_option maxRecDepth 20000 in
theorem sBX0_goWithLarks_96 (C : Cx p s m args meth c cX0_goWithLarks 7 RX0 G) (hr : meth.sig.returnType = none) {r5 : Int32 → Int32 → Int32 → St → Option St} (hr5 : ∀ (l2 : Int32) (l3 : Int32) (l4 : Int32) (S : St) (res : St) (H : Heap) (locs : List Loc) (ls : Array Slot), Dy G S s H locs → lv_has ls 7 [(0, .ref (gR G 130)), (2, .int l2), (3, .int l3), (4, .int l4)] → r5 l2 l3 l4 S = some res → W p l e (rmL 7 0 0) s m args below meth c H locs 0 0 (MQ below (QV G res) args s 0 0 (Ab G)) (F0 m 5 ls [])) {l2 : Int32} {l3 : Int32} {l4 : Int32} {S : St} {res : St} {H : Heap} {locs : List Loc} {ls : Array Slot}  (hd : Dy G S s H locs) (hl : lv_has ls 7 [(0, .ref (gR G 130)), (2, .int l2), (3, .int l3), (4, .int l4)]) (h : BX0_goWithLarks_96 r5 l2 l3 l4 S = some res) : W p l e (rmL 7 0 0) s m args below meth c H locs 0 0 (MQ below (QV G res) args s 0 0 (Ab G)) (F0 m 96 ls []) := by
  unfold BX0_goWithLarks_96 at h
  have hx := C.1.1
  have hb := C.1.2.1
  refine lv_aload_n hx hb dX0_goWithLarks_96 rfl (lv_at hl 0 rfl) ?_
  obtain ⟨S1, hc, h⟩ := bv_some h
  refine R_cVv C hd (ccX0_goHour l G  hc) kX0_59 rfl (by decide) (rfl : kd 130 = 0) hl.1 ⟨by decide, by decide⟩ rfl rfl (Nat.le_of_ble_eq_true rfl) dX0_goWithLarks_97 ⟨Nat.zero_le _, Nat.zero_le _⟩ (fun H locs hd => ?_)
  generalize S1 = S at h hd
  refine R_vi h (fun x1 ex1 h => ?_)
  refine lv_iinc (v := x1) (lv' := [(4, .int x1), (0, .ref (gR G 130)), (2, .int l2), (3, .int l3)]) hx hb dX0_goWithLarks_100 hl (k := 3) rfl (by rw [ex1]; rfl) (by decide) rfl (fun ls hl => ?_)
  refine lv_goto (tgt := 5) hx hb dX0_goWithLarks_103 (by decide) ?_
  exact hr5 l2 l3 x1 _ _ _ _ _  hd (lv_sub hl [1, 2, 3, 0] rfl) h
def KX0_goWithLarks_5 (r5 : Int32 → Int32 → Int32 → St → Option St) (l2 : Int32) (l3 : Int32) (l4 : Int32) (S : St) : Option St :=
  (if l2 ≤ l4 then some S else gm S 130 0 8 fun q2 => (if (S q2 0) ≤ 0 then (BX0_goWithLarks_96 r5 l2 l3 l4 S) else gm S 130 0 8 fun q4 => (if (S q4 2) ≤ 0 then (BX0_goWithLarks_96 r5 l2 l3 l4 S) else bd (fX0_nextSeed l3 S) fun x6 S => gm S 130 0 8 fun q7 => rm' ((x6 >>> ((16 : Int32) &&& 31)) &&& 32767) (S q7 0) fun x8 => bd (fX0_nextSeed x6 S) fun x9 S => gm S 130 0 8 fun q10 => rm' ((x9 >>> ((16 : Int32) &&& 31)) &&& 32767) (S q10 2) fun x11 => bv (fX0_findPlaces  S) fun S => rd S 132 x11 fun x13 => bd (fX0_spread x13 x8 ((-1)) S) fun x14 S => (BX0_goWithLarks_96 r5 l2 x9 l4 S))))
set_option maxHeartbeats 4000000 in
set_option maxRecDepth 20000 in
theorem sKX0_goWithLarks_5 (C : Cx p s m args meth c cX0_goWithLarks 7 RX0 G) (hr : meth.sig.returnType = none) {r5 : Int32 → Int32 → Int32 → St → Option St} (hr5 : ∀ (l2 : Int32) (l3 : Int32) (l4 : Int32) (S : St) (res : St) (H : Heap) (locs : List Loc) (ls : Array Slot), Dy G S s H locs → lv_has ls 7 [(0, .ref (gR G 130)), (2, .int l2), (3, .int l3), (4, .int l4)] → r5 l2 l3 l4 S = some res → W p l e (rmL 7 0 0) s m args below meth c H locs 0 0 (MQ below (QV G res) args s 0 0 (Ab G)) (F0 m 5 ls [])) {l2 : Int32} {l3 : Int32} {l4 : Int32} {S : St} {res : St} {H : Heap} {locs : List Loc} {ls : Array Slot}  (hd : Dy G S s H locs) (hl : lv_has ls 7 [(0, .ref (gR G 130)), (2, .int l2), (3, .int l3), (4, .int l4)]) (h : KX0_goWithLarks_5 r5 l2 l3 l4 S = some res) : W p l e (rmL 7 0 0) s m args below meth c H locs 0 0 (MQ below (QV G res) args s 0 0 (Ab G)) (F0 m 5 ls []) := by
  unfold KX0_goWithLarks_5 at h
  have hx := C.1.1
  have hb := C.1.2.1
  refine lv_iload hx hb dX0_goWithLarks_5 (lv_at hl 3 rfl) ?_
  refine lv_iload_n hx hb dX0_goWithLarks_7 rfl (lv_at hl 1 rfl) ?_
  refine lv_icmp_ge (tgt := 106) hx hb dX0_goWithLarks_8 (by decide) (fun c1 => ?_) (fun c1 => ?_)
  · rw [if_pos c1] at h
    exact R_vret C hr hd h dX0_goWithLarks_106
  · rw [if_neg c1] at h
    refine lv_aload_n hx hb dX0_goWithLarks_11 rfl (lv_at hl 0 rfl) ?_
    refine gX0_30 C hd (rfl : kd 130 = 0) h dX0_goWithLarks_12 (fun q2 kq2 h => ?_)
    refine gX0_80 C hd kq2 dX0_goWithLarks_15 ?_
    refine lv_if_le (tgt := 96) hx hb dX0_goWithLarks_18 (by decide) (fun c3 => ?_) (fun c3 => ?_)
    · rw [if_pos c3] at h
      exact sBX0_goWithLarks_96 C hr hr5  hd (lv_sub hl [0, 1, 2, 3] rfl) h
    · rw [if_neg c3] at h
      refine lv_aload_n hx hb dX0_goWithLarks_21 rfl (lv_at hl 0 rfl) ?_
      refine gX0_30 C hd (rfl : kd 130 = 0) h dX0_goWithLarks_22 (fun q4 kq4 h => ?_)
      refine gX0_49 C hd kq4 dX0_goWithLarks_25 ?_
      refine lv_if_le (tgt := 96) hx hb dX0_goWithLarks_28 (by decide) (fun c5 => ?_) (fun c5 => ?_)
      · rw [if_pos c5] at h
        exact sBX0_goWithLarks_96 C hr hr5  hd (lv_sub hl [0, 1, 2, 3] rfl) h
      · rw [if_neg c5] at h
        refine lv_iload_n hx hb dX0_goWithLarks_31 rfl (lv_at hl 2 rfl) ?_
        obtain ⟨x6, S1, hc, h⟩ := bd_some h
        refine R_cSi C hd (ccX0_nextSeed l G  hc) kX0_134  hl.1 ⟨by decide, by decide⟩ rfl rfl (Nat.le_of_ble_eq_true rfl) dX0_goWithLarks_32 ⟨Nat.zero_le _, Nat.zero_le _⟩ (fun H locs hd => ?_)
        generalize S1 = S at h hd
        refine lv_istore_n (lv' := [(3, .int x6), (0, .ref (gR G 130)), (2, .int l2), (4, .int l4)]) hx hb dX0_goWithLarks_35 rfl hl (by decide) rfl (fun ls hl => ?_)
        refine lv_iload_n hx hb dX0_goWithLarks_36 rfl (lv_at hl 0 rfl) ?_
        refine lv_bipush (v := 16) hx hb dX0_goWithLarks_37 (by decide) ?_
        refine lv_ishr hx hb dX0_goWithLarks_39 ?_
        refine lv_sipush (v := 32767) hx hb dX0_goWithLarks_40 (by decide) ?_
        refine lv_iand hx hb dX0_goWithLarks_43 ?_
        refine lv_aload_n hx hb dX0_goWithLarks_44 rfl (lv_at hl 1 rfl) ?_
        refine gX0_30 C hd (rfl : kd 130 = 0) h dX0_goWithLarks_45 (fun q7 kq7 h => ?_)
        refine gX0_80 C hd kq7 dX0_goWithLarks_48 ?_
        refine R_rem C h dX0_goWithLarks_51 (fun x8 h => ?_)
        refine lv_istore (lv' := [(5, .int x8), (3, .int x6), (0, .ref (gR G 130)), (2, .int l2), (4, .int l4)]) hx hb dX0_goWithLarks_52 hl (by decide) rfl (fun ls hl => ?_)
        refine lv_iload_n hx hb dX0_goWithLarks_54 rfl (lv_at hl 1 rfl) ?_
        obtain ⟨x9, S1, hc, h⟩ := bd_some h
        refine R_cSi C hd (ccX0_nextSeed l G  hc) kX0_134  hl.1 ⟨by decide, by decide⟩ rfl rfl (Nat.le_of_ble_eq_true rfl) dX0_goWithLarks_55 ⟨Nat.zero_le _, Nat.zero_le _⟩ (fun H locs hd => ?_)
        generalize S1 = S at h hd
        refine lv_istore_n (lv' := [(3, .int x9), (5, .int x8), (0, .ref (gR G 130)), (2, .int l2), (4, .int l4)]) hx hb dX0_goWithLarks_58 rfl hl (by decide) rfl (fun ls hl => ?_)
        refine lv_iload_n hx hb dX0_goWithLarks_59 rfl (lv_at hl 0 rfl) ?_
        refine lv_bipush (v := 16) hx hb dX0_goWithLarks_60 (by decide) ?_
        refine lv_ishr hx hb dX0_goWithLarks_62 ?_
        refine lv_sipush (v := 32767) hx hb dX0_goWithLarks_63 (by decide) ?_
        refine lv_iand hx hb dX0_goWithLarks_66 ?_
        refine lv_aload_n hx hb dX0_goWithLarks_67 rfl (lv_at hl 2 rfl) ?_
        refine gX0_30 C hd (rfl : kd 130 = 0) h dX0_goWithLarks_68 (fun q10 kq10 h => ?_)
        refine gX0_49 C hd kq10 dX0_goWithLarks_71 ?_
        refine R_rem C h dX0_goWithLarks_74 (fun x11 h => ?_)
        refine lv_istore (lv' := [(6, .int x11), (3, .int x9), (5, .int x8), (0, .ref (gR G 130)), (2, .int l2), (4, .int l4)]) hx hb dX0_goWithLarks_75 hl (by decide) rfl (fun ls hl => ?_)
        refine lv_aload_n hx hb dX0_goWithLarks_77 rfl (lv_at hl 3 rfl) ?_
        obtain ⟨S1, hc, h⟩ := bv_some h
        refine R_cVv C hd (ccX0_findPlaces l G  hc) kX0_46 rfl (by decide) (rfl : kd 130 = 0) hl.1 ⟨by decide, by decide⟩ rfl rfl (Nat.le_of_ble_eq_true rfl) dX0_goWithLarks_78 ⟨Nat.zero_le _, Nat.zero_le _⟩ (fun H locs hd => ?_)
        generalize S1 = S at h hd
        refine lv_aload_n hx hb dX0_goWithLarks_81 rfl (lv_at hl 3 rfl) ?_
        refine lv_aload_n hx hb dX0_goWithLarks_82 rfl (lv_at hl 3 rfl) ?_
        refine gX0_15 C hd (rfl : kd 130 = 0) (q := 132) rfl dX0_goWithLarks_83 (fun y12 => ?_)
        refine lv_iload hx hb dX0_goWithLarks_86 (lv_at hl 0 rfl) ?_
        refine R_iald C hd y12 h dX0_goWithLarks_88 (fun x13 h => ?_)
        refine lv_iload hx hb dX0_goWithLarks_89 (lv_at hl 2 rfl) ?_
        refine lv_iconst (v := -1) hx hb dX0_goWithLarks_91 (by decide) ?_
        obtain ⟨x14, S1, hc, h⟩ := bd_some h
        refine R_cVi C hd (ccX0_spread l G  hc) kX0_98 rfl (by decide) (rfl : kd 130 = 0) hl.1 ⟨by decide, by decide⟩ rfl rfl (Nat.le_of_ble_eq_true rfl) dX0_goWithLarks_92 ⟨Nat.zero_le _, Nat.zero_le _⟩ (fun H locs hd => ?_)
        generalize S1 = S at h hd
        refine lv_pop hx hb dX0_goWithLarks_95 rfl ?_
        exact sBX0_goWithLarks_96 C hr hr5  hd (lv_sub hl [3, 4, 1, 5] rfl) h
def LX0_goWithLarks_5 : Nat → Int32 → Int32 → Int32 → St → Option St
  | 0 => fun _ _ _ _ => none
  | n + 1 => fun l2 l3 l4 S => KX0_goWithLarks_5 (LX0_goWithLarks_5 n) l2 l3 l4 S
theorem sLX0_goWithLarks_5 (C : Cx p s m args meth c cX0_goWithLarks 7 RX0 G) (hr : meth.sig.returnType = none) : ∀ (n : Nat) (l2 : Int32) (l3 : Int32) (l4 : Int32) (S : St) (res : St) (H : Heap) (locs : List Loc) (ls : Array Slot), Dy G S s H locs → lv_has ls 7 [(0, .ref (gR G 130)), (2, .int l2), (3, .int l3), (4, .int l4)] → LX0_goWithLarks_5 n l2 l3 l4 S = some res → W p l e (rmL 7 0 0) s m args below meth c H locs 0 0 (MQ below (QV G res) args s 0 0 (Ab G)) (F0 m 5 ls []) := by
  intro n
  induction n with
  | zero => intro l2 l3 l4 S res H locs ls  hd hl h; cases h
  | succ n ih =>
    intro l2 l3 l4 S res H locs ls  hd hl h
    exact sKX0_goWithLarks_5 C hr ih  hd hl h
def fX0_goWithLarks (a1 : Int32) (a2 : Int32) (S : St) : Option St :=
  (LX0_goWithLarks_5 FU a2 a1 0 S)
set_option maxHeartbeats 4000000 in
set_option maxRecDepth 20000 in
theorem sfX0_goWithLarks (C : Cx p s m args meth c cX0_goWithLarks 7 RX0 G) (hr : meth.sig.returnType = none) {a1 : Int32} {a2 : Int32} {S : St} {res : St} {H : Heap} {locs : List Loc} {ls : Array Slot}  (hd : Dy G S s H locs) (hl : lv_has ls 7 [(0, .ref (gR G 130)), (1, .int a1), (2, .int a2)]) (h : fX0_goWithLarks a1 a2 S = some res) : W p l e (rmL 7 0 0) s m args below meth c H locs 0 0 (MQ below (QV G res) args s 0 0 (Ab G)) (F0 m 0 ls []) := by
  unfold fX0_goWithLarks at h
  have hx := C.1.1
  have hb := C.1.2.1
  refine lv_iload_n hx hb dX0_goWithLarks_0 rfl (lv_at hl 1 rfl) ?_
  refine lv_istore_n (lv' := [(3, .int a1), (0, .ref (gR G 130)), (1, .int a1), (2, .int a2)]) hx hb dX0_goWithLarks_1 rfl hl (by decide) rfl (fun ls hl => ?_)
  refine lv_iconst (v := 0) hx hb dX0_goWithLarks_2 (by decide) ?_
  refine lv_istore (lv' := [(4, .int 0), (3, .int a1), (0, .ref (gR G 130)), (1, .int a1), (2, .int a2)]) hx hb dX0_goWithLarks_3 hl (by decide) rfl (fun ls hl => ?_)
  exact sLX0_goWithLarks_5 C hr _ a2 a1 0 _ _ _ _ _  hd (lv_sub hl [2, 4, 1, 0] rfl) h
set_option maxRecDepth 20000 in
theorem ccX0_goWithLarks (l : Launch) (G : Gt) {a1 : Int32} {a2 : Int32} {S : St} {res : St}  (h : fX0_goWithLarks a1 a2 S = some res) : Met l yX0_goWithLarks (wm yX0_goWithLarks cX0_goWithLarks 7 (none)) (rmL 7 0 0) (PcW G S [.ref (gR G 130), .int a1, .int a2]) (QV G res) 0 0 (Ab G) := by
  refine Met.ofW (cc := cX0_goWithLarks) (maxL := 7) (ret := none) (by decide) rfl ?_
  intro p e s m args below meth c s₁ B hml hv
  obtain ⟨rfl, hK, hP⟩ := hv
  have C : Cx p s m _ meth c cX0_goWithLarks 7 RX0 G := ⟨⟨B.exec, B.bytes, hml, findClass_of_methodNamed B.named, fun w hw => atoms_spec (ws := wm yX0_goWithLarks cX0_goWithLarks 7 (none)) B.pre w (List.mem_cons_of_mem _ hw)⟩, B.notSynchronized, hK⟩
  have hl := lv_entry ([.ref (gR G 130), .int a1, .int a2]) (n := 7) (Nat.le_of_ble_eq_true rfl)
  rw [lg_entry_eq]
  generalize (lg_sl ([.ref (gR G 130), .int a1, .int a2]) ++ List.replicate (7 - (lg_sl ([.ref (gR G 130), .int a1, .int a2])).length) Slot.unset).toArray = ls at hl ⊢
  exact sfX0_goWithLarks C B.returns  ⟨hP, va_S.rf⟩ hl h
def KX0_knownTogether_4 (r4 : Int32 → Int32 → St → Option (Int32 × St)) (l1 : Int32) (l2 : Int32) (S : St) : Option (Int32 × St) :=
  gm S 130 0 8 fun q1 => (if (S q1 2) ≤ l2 then ri l1 S else rd S 131 (2 + l2) fun x4 => bd (fJ6_bitCount_0f7a4 x4 S) fun x5 S => vl (l1 + x5) fun x6 => vl (l2 + 1) fun x7 => (r4 x6 x7 S))
set_option maxHeartbeats 4000000 in
set_option maxRecDepth 20000 in
theorem sKX0_knownTogether_4 (C : Cx p s m args meth c cX0_knownTogether 3 RX0 G) (hr : meth.sig.returnType = some .int) {r4 : Int32 → Int32 → St → Option (Int32 × St)} (hr4 : ∀ (l1 : Int32) (l2 : Int32) (S : St) (res : (Int32 × St)) (H : Heap) (locs : List Loc) (ls : Array Slot), Dy G S s H locs → lv_has ls 3 [(0, .ref (gR G 130)), (1, .int l1), (2, .int l2)] → r4 l1 l2 S = some res → W p l e (rmL 4 0 0) s m args below meth c H locs 0 0 (MQ below (QI G res.1 res.2) args s 0 0 (Ab G)) (F0 m 4 ls [])) {l1 : Int32} {l2 : Int32} {S : St} {res : (Int32 × St)} {H : Heap} {locs : List Loc} {ls : Array Slot}  (hd : Dy G S s H locs) (hl : lv_has ls 3 [(0, .ref (gR G 130)), (1, .int l1), (2, .int l2)]) (h : KX0_knownTogether_4 r4 l1 l2 S = some res) : W p l e (rmL 4 0 0) s m args below meth c H locs 0 0 (MQ below (QI G res.1 res.2) args s 0 0 (Ab G)) (F0 m 4 ls []) := by
  unfold KX0_knownTogether_4 at h
  have hx := C.1.1
  have hb := C.1.2.1
  refine lv_iload_n hx hb dX0_knownTogether_4 rfl (lv_at hl 2 rfl) ?_
  refine lv_aload_n hx hb dX0_knownTogether_5 rfl (lv_at hl 0 rfl) ?_
  refine gX0_30 C hd (rfl : kd 130 = 0) h dX0_knownTogether_6 (fun q1 kq1 h => ?_)
  refine gX0_49 C hd kq1 dX0_knownTogether_9 ?_
  refine lv_icmp_ge (tgt := 35) hx hb dX0_knownTogether_12 (by decide) (fun c2 => ?_) (fun c2 => ?_)
  · rw [if_pos c2] at h
    refine lv_iload_n hx hb dX0_knownTogether_35 rfl (lv_at hl 1 rfl) ?_
    exact R_iret C hr hd h dX0_knownTogether_36
  · rw [if_neg c2] at h
    refine lv_iload_n hx hb dX0_knownTogether_15 rfl (lv_at hl 1 rfl) ?_
    refine lv_aload_n hx hb dX0_knownTogether_16 rfl (lv_at hl 0 rfl) ?_
    refine gX0_9 C hd (rfl : kd 130 = 0) (q := 131) rfl dX0_knownTogether_17 (fun y3 => ?_)
    refine lv_iconst (v := 2) hx hb dX0_knownTogether_20 (by decide) ?_
    refine lv_iload_n hx hb dX0_knownTogether_21 rfl (lv_at hl 2 rfl) ?_
    refine lv_iadd hx hb dX0_knownTogether_22 ?_
    refine R_iald C hd y3 h dX0_knownTogether_23 (fun x4 h => ?_)
    obtain ⟨x5, S1, hc, h⟩ := bd_some h
    refine R_cSi C hd (ccJ6_bitCount_0f7a4 l G  hc) kX0_83  hl.1 ⟨by decide, by decide⟩ rfl rfl (Nat.le_of_ble_eq_true rfl) dX0_knownTogether_24 ⟨Nat.zero_le _, Nat.zero_le _⟩ (fun H locs hd => ?_)
    generalize S1 = S at h hd
    refine lv_iadd hx hb dX0_knownTogether_27 ?_
    refine R_vl h (fun x6 h => ?_)
    refine lv_istore_n (lv' := [(1, .int x6), (0, .ref (gR G 130)), (2, .int l2)]) hx hb dX0_knownTogether_28 rfl hl (by decide) rfl (fun ls hl => ?_)
    refine R_vi h (fun x7 ex7 h => ?_)
    refine lv_iinc (v := x7) (lv' := [(2, .int x7), (1, .int x6), (0, .ref (gR G 130))]) hx hb dX0_knownTogether_29 hl (k := 2) rfl (by rw [ex7]; rfl) (by decide) rfl (fun ls hl => ?_)
    refine lv_goto (tgt := 4) hx hb dX0_knownTogether_32 (by decide) ?_
    exact hr4 x6 x7 _ _ _ _ _  hd (lv_sub hl [2, 1, 0] rfl) h
def LX0_knownTogether_4 : Nat → Int32 → Int32 → St → Option (Int32 × St)
  | 0 => fun _ _ _ => none
  | n + 1 => fun l1 l2 S => KX0_knownTogether_4 (LX0_knownTogether_4 n) l1 l2 S
theorem sLX0_knownTogether_4 (C : Cx p s m args meth c cX0_knownTogether 3 RX0 G) (hr : meth.sig.returnType = some .int) : ∀ (n : Nat) (l1 : Int32) (l2 : Int32) (S : St) (res : (Int32 × St)) (H : Heap) (locs : List Loc) (ls : Array Slot), Dy G S s H locs → lv_has ls 3 [(0, .ref (gR G 130)), (1, .int l1), (2, .int l2)] → LX0_knownTogether_4 n l1 l2 S = some res → W p l e (rmL 4 0 0) s m args below meth c H locs 0 0 (MQ below (QI G res.1 res.2) args s 0 0 (Ab G)) (F0 m 4 ls []) := by
  intro n
  induction n with
  | zero => intro l1 l2 S res H locs ls  hd hl h; cases h
  | succ n ih =>
    intro l1 l2 S res H locs ls  hd hl h
    exact sKX0_knownTogether_4 C hr ih  hd hl h
def fX0_knownTogether  (S : St) : Option (Int32 × St) :=
  (LX0_knownTogether_4 FU 0 0 S)
set_option maxHeartbeats 4000000 in
set_option maxRecDepth 20000 in
theorem sfX0_knownTogether (C : Cx p s m args meth c cX0_knownTogether 3 RX0 G) (hr : meth.sig.returnType = some .int)  {S : St} {res : (Int32 × St)} {H : Heap} {locs : List Loc} {ls : Array Slot}  (hd : Dy G S s H locs) (hl : lv_has ls 3 [(0, .ref (gR G 130))]) (h : fX0_knownTogether  S = some res) : W p l e (rmL 4 0 0) s m args below meth c H locs 0 0 (MQ below (QI G res.1 res.2) args s 0 0 (Ab G)) (F0 m 0 ls []) := by
  unfold fX0_knownTogether at h
  have hx := C.1.1
  have hb := C.1.2.1
  refine lv_iconst (v := 0) hx hb dX0_knownTogether_0 (by decide) ?_
  refine lv_istore_n (lv' := [(1, .int 0), (0, .ref (gR G 130))]) hx hb dX0_knownTogether_1 rfl hl (by decide) rfl (fun ls hl => ?_)
  refine lv_iconst (v := 0) hx hb dX0_knownTogether_2 (by decide) ?_
  refine lv_istore_n (lv' := [(2, .int 0), (1, .int 0), (0, .ref (gR G 130))]) hx hb dX0_knownTogether_3 rfl hl (by decide) rfl (fun ls hl => ?_)
  exact sLX0_knownTogether_4 C hr _ 0 0 _ _ _ _ _  hd (lv_sub hl [2, 1, 0] rfl) h
set_option maxRecDepth 20000 in
theorem ccX0_knownTogether (l : Launch) (G : Gt)  {S : St} {res : (Int32 × St)}  (h : fX0_knownTogether  S = some res) : Met l yX0_knownTogether (wm yX0_knownTogether cX0_knownTogether 3 (some .int)) (rmL 4 0 0) (PcW G S [.ref (gR G 130)]) (QI G res.1 res.2) 0 0 (Ab G) := by
  refine Met.ofW (cc := cX0_knownTogether) (maxL := 3) (ret := (some .int)) (by decide) rfl ?_
  intro p e s m args below meth c s₁ B hml hv
  obtain ⟨rfl, hK, hP⟩ := hv
  have C : Cx p s m _ meth c cX0_knownTogether 3 RX0 G := ⟨⟨B.exec, B.bytes, hml, findClass_of_methodNamed B.named, fun w hw => atoms_spec (ws := wm yX0_knownTogether cX0_knownTogether 3 (some .int)) B.pre w (List.mem_cons_of_mem _ hw)⟩, B.notSynchronized, hK⟩
  have hl := lv_entry ([.ref (gR G 130)]) (n := 3) (Nat.le_of_ble_eq_true rfl)
  rw [lg_entry_eq]
  generalize (lg_sl ([.ref (gR G 130)]) ++ List.replicate (3 - (lg_sl ([.ref (gR G 130)])).length) Slot.unset).toArray = ls at hl ⊢
  exact sfX0_knownTogether C B.returns  ⟨hP, va_S.rf⟩ hl h
def KX0_greatestPurse_23 (r23 : Int32 → Int32 → St → Option (Int32 × St)) (l1 : Int32) (l2 : Int32) (S : St) : Option (Int32 × St) :=
  gm S 130 0 8 fun q1 => (if (S q1 2) ≤ l2 then ri l1 S else rd S 131 (8 + l2) fun x4 => vl (if l1 < x4 then x4 else l1) fun x5 => vl (l2 + 1) fun x6 => (r23 x5 x6 S))
set_option maxHeartbeats 4000000 in
set_option maxRecDepth 20000 in
theorem sKX0_greatestPurse_23 (C : Cx p s m args meth c cX0_greatestPurse 3 RX0 G) (hr : meth.sig.returnType = some .int) {r23 : Int32 → Int32 → St → Option (Int32 × St)} (hr23 : ∀ (l1 : Int32) (l2 : Int32) (S : St) (res : (Int32 × St)) (H : Heap) (locs : List Loc) (ls : Array Slot), Dy G S s H locs → lv_has ls 3 [(0, .ref (gR G 130)), (1, .int l1), (2, .int l2)] → r23 l1 l2 S = some res → W p l e (rmL 3 0 0) s m args below meth c H locs 0 0 (MQ below (QI G res.1 res.2) args s 0 0 (Ab G)) (F0 m 23 ls [])) {l1 : Int32} {l2 : Int32} {S : St} {res : (Int32 × St)} {H : Heap} {locs : List Loc} {ls : Array Slot}  (hd : Dy G S s H locs) (hl : lv_has ls 3 [(0, .ref (gR G 130)), (1, .int l1), (2, .int l2)]) (h : KX0_greatestPurse_23 r23 l1 l2 S = some res) : W p l e (rmL 3 0 0) s m args below meth c H locs 0 0 (MQ below (QI G res.1 res.2) args s 0 0 (Ab G)) (F0 m 23 ls []) := by
  unfold KX0_greatestPurse_23 at h
  have hx := C.1.1
  have hb := C.1.2.1
  refine lv_iload_n hx hb dX0_greatestPurse_23 rfl (lv_at hl 2 rfl) ?_
  refine lv_aload_n hx hb dX0_greatestPurse_24 rfl (lv_at hl 0 rfl) ?_
  refine gX0_30 C hd (rfl : kd 130 = 0) h dX0_greatestPurse_25 (fun q1 kq1 h => ?_)
  refine gX0_49 C hd kq1 dX0_greatestPurse_28 ?_
  refine lv_icmp_ge (tgt := 54) hx hb dX0_greatestPurse_31 (by decide) (fun c2 => ?_) (fun c2 => ?_)
  · rw [if_pos c2] at h
    refine lv_iload_n hx hb dX0_greatestPurse_54 rfl (lv_at hl 1 rfl) ?_
    exact R_iret C hr hd h dX0_greatestPurse_55
  · rw [if_neg c2] at h
    refine lv_iload_n hx hb dX0_greatestPurse_34 rfl (lv_at hl 1 rfl) ?_
    refine lv_aload_n hx hb dX0_greatestPurse_35 rfl (lv_at hl 0 rfl) ?_
    refine gX0_9 C hd (rfl : kd 130 = 0) (q := 131) rfl dX0_greatestPurse_36 (fun y3 => ?_)
    refine lv_bipush (v := 8) hx hb dX0_greatestPurse_39 (by decide) ?_
    refine lv_iload_n hx hb dX0_greatestPurse_41 rfl (lv_at hl 2 rfl) ?_
    refine lv_iadd hx hb dX0_greatestPurse_42 ?_
    refine R_iald C hd y3 h dX0_greatestPurse_43 (fun x4 h => ?_)
    refine R_mmax C hl.1 kmX0_109 (Nat.le_of_ble_eq_true rfl) (Nat.le_of_ble_eq_true rfl) (Nat.le_of_ble_eq_true rfl) (Nat.le_of_ble_eq_true rfl) dX0_greatestPurse_44 ?_
    refine R_vl h (fun x5 h => ?_)
    refine lv_istore_n (lv' := [(1, .int x5), (0, .ref (gR G 130)), (2, .int l2)]) hx hb dX0_greatestPurse_47 rfl hl (by decide) rfl (fun ls hl => ?_)
    refine R_vi h (fun x6 ex6 h => ?_)
    refine lv_iinc (v := x6) (lv' := [(2, .int x6), (1, .int x5), (0, .ref (gR G 130))]) hx hb dX0_greatestPurse_48 hl (k := 2) rfl (by rw [ex6]; rfl) (by decide) rfl (fun ls hl => ?_)
    refine lv_goto (tgt := 23) hx hb dX0_greatestPurse_51 (by decide) ?_
    exact hr23 x5 x6 _ _ _ _ _  hd (lv_sub hl [2, 1, 0] rfl) h
def LX0_greatestPurse_23 : Nat → Int32 → Int32 → St → Option (Int32 × St)
  | 0 => fun _ _ _ => none
  | n + 1 => fun l1 l2 S => KX0_greatestPurse_23 (LX0_greatestPurse_23 n) l1 l2 S
theorem sLX0_greatestPurse_23 (C : Cx p s m args meth c cX0_greatestPurse 3 RX0 G) (hr : meth.sig.returnType = some .int) : ∀ (n : Nat) (l1 : Int32) (l2 : Int32) (S : St) (res : (Int32 × St)) (H : Heap) (locs : List Loc) (ls : Array Slot), Dy G S s H locs → lv_has ls 3 [(0, .ref (gR G 130)), (1, .int l1), (2, .int l2)] → LX0_greatestPurse_23 n l1 l2 S = some res → W p l e (rmL 3 0 0) s m args below meth c H locs 0 0 (MQ below (QI G res.1 res.2) args s 0 0 (Ab G)) (F0 m 23 ls []) := by
  intro n
  induction n with
  | zero => intro l1 l2 S res H locs ls  hd hl h; cases h
  | succ n ih =>
    intro l1 l2 S res H locs ls  hd hl h
    exact sKX0_greatestPurse_23 C hr ih  hd hl h
def fX0_greatestPurse  (S : St) : Option (Int32 × St) :=
  gm S 130 0 8 fun q1 => (if 1 ≤ (S q1 2) then rd S 131 8 fun x4 => (LX0_greatestPurse_23 FU x4 1 S) else ri 0 S)
set_option maxHeartbeats 4000000 in
set_option maxRecDepth 20000 in
theorem sfX0_greatestPurse (C : Cx p s m args meth c cX0_greatestPurse 3 RX0 G) (hr : meth.sig.returnType = some .int)  {S : St} {res : (Int32 × St)} {H : Heap} {locs : List Loc} {ls : Array Slot}  (hd : Dy G S s H locs) (hl : lv_has ls 3 [(0, .ref (gR G 130))]) (h : fX0_greatestPurse  S = some res) : W p l e (rmL 3 0 0) s m args below meth c H locs 0 0 (MQ below (QI G res.1 res.2) args s 0 0 (Ab G)) (F0 m 0 ls []) := by
  unfold fX0_greatestPurse at h
  have hx := C.1.1
  have hb := C.1.2.1
  refine lv_aload_n hx hb dX0_greatestPurse_0 rfl (lv_at hl 0 rfl) ?_
  refine gX0_30 C hd (rfl : kd 130 = 0) h dX0_greatestPurse_1 (fun q1 kq1 h => ?_)
  refine gX0_49 C hd kq1 dX0_greatestPurse_4 ?_
  refine lv_iconst (v := 1) hx hb dX0_greatestPurse_7 (by decide) ?_
  refine lv_icmp_ge (tgt := 13) hx hb dX0_greatestPurse_8 (by decide) (fun c2 => ?_) (fun c2 => ?_)
  · rw [if_pos c2] at h
    refine lv_aload_n hx hb dX0_greatestPurse_13 rfl (lv_at hl 0 rfl) ?_
    refine gX0_9 C hd (rfl : kd 130 = 0) (q := 131) rfl dX0_greatestPurse_14 (fun y3 => ?_)
    refine lv_bipush (v := 8) hx hb dX0_greatestPurse_17 (by decide) ?_
    refine R_iald C hd y3 h dX0_greatestPurse_19 (fun x4 h => ?_)
    refine lv_istore_n (lv' := [(1, .int x4), (0, .ref (gR G 130))]) hx hb dX0_greatestPurse_20 rfl hl (by decide) rfl (fun ls hl => ?_)
    refine lv_iconst (v := 1) hx hb dX0_greatestPurse_21 (by decide) ?_
    refine lv_istore_n (lv' := [(2, .int 1), (1, .int x4), (0, .ref (gR G 130))]) hx hb dX0_greatestPurse_22 rfl hl (by decide) rfl (fun ls hl => ?_)
    exact sLX0_greatestPurse_23 C hr _ x4 1 _ _ _ _ _  hd (lv_sub hl [2, 1, 0] rfl) h
  · rw [if_neg c2] at h
    refine lv_iconst (v := 0) hx hb dX0_greatestPurse_11 (by decide) ?_
    exact R_iret C hr hd h dX0_greatestPurse_12
set_option maxRecDepth 20000 in
theorem ccX0_greatestPurse (l : Launch) (G : Gt)  {S : St} {res : (Int32 × St)}  (h : fX0_greatestPurse  S = some res) : Met l yX0_greatestPurse (wm yX0_greatestPurse cX0_greatestPurse 3 (some .int)) (rmL 3 0 0) (PcW G S [.ref (gR G 130)]) (QI G res.1 res.2) 0 0 (Ab G) := by
  refine Met.ofW (cc := cX0_greatestPurse) (maxL := 3) (ret := (some .int)) (by decide) rfl ?_
  intro p e s m args below meth c s₁ B hml hv
  obtain ⟨rfl, hK, hP⟩ := hv
  have C : Cx p s m _ meth c cX0_greatestPurse 3 RX0 G := ⟨⟨B.exec, B.bytes, hml, findClass_of_methodNamed B.named, fun w hw => atoms_spec (ws := wm yX0_greatestPurse cX0_greatestPurse 3 (some .int)) B.pre w (List.mem_cons_of_mem _ hw)⟩, B.notSynchronized, hK⟩
  have hl := lv_entry ([.ref (gR G 130)]) (n := 3) (Nat.le_of_ble_eq_true rfl)
  rw [lg_entry_eq]
  generalize (lg_sl ([.ref (gR G 130)]) ++ List.replicate (3 - (lg_sl ([.ref (gR G 130)])).length) Slot.unset).toArray = ls at hl ⊢
  exact sfX0_greatestPurse C B.returns  ⟨hP, va_S.rf⟩ hl h
end T23
