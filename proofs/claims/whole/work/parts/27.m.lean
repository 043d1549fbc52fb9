section T27
variable {p : Program} {l : Launch} {e : Env} {s : State} {m : MethodId} {args : Array Value} {below : List Frame} {meth : Method} {c : Code} {G : Gt}
def BX9_putBytes_40 (r3 : Int32 → Int32 → St → Option St) (l1 : Int32) (l2 : Int32) (S : St) : Option St :=
  vl (l2 + (-8)) fun x1 => (r3 l1 x1 S)
set_option maxHeartbeats 4000000 in
set_option maxRecDepth 20000 in
theorem sBX9_putBytes_40 (C : Cx p s m args meth c cX9_putBytes 3 RX9 G) (hr : meth.sig.returnType = none) {r3 : Int32 → Int32 → St → Option St} (hr3 : ∀ (l1 : Int32) (l2 : Int32) (S : St) (res : St) (H : Heap) (locs : List Loc) (ls : Array Slot), Dy G S s H locs → lv_has ls 3 [(0, .ref (gR G 0)), (1, .int l1), (2, .int l2)] → r3 l1 l2 S = some res → W p l e (rmL 3 0 0) s m args below meth c H locs 0 0 (MQ below (QV G res) args s 0 0 (Ab G)) (F0 m 3 ls [])) {l1 : Int32} {l2 : Int32} {S : St} {res : St} {H : Heap} {locs : List Loc} {ls : Array Slot}  (hd : Dy G S s H locs) (hl : lv_has ls 3 [(0, .ref (gR G 0)), (1, .int l1), (2, .int l2)]) (h : BX9_putBytes_40 r3 l1 l2 S = some res) : W p l e (rmL 3 0 0) s m args below meth c H locs 0 0 (MQ below (QV G res) args s 0 0 (Ab G)) (F0 m 40 ls []) := by
  unfold BX9_putBytes_40 at h
  have hx := C.1.1
  have hb := C.1.2.1
  refine R_vi h (fun x1 ex1 h => ?_)
  refine lv_iinc (v := x1) (lv' := [(2, .int x1), (0, .ref (gR G 0)), (1, .int l1)]) hx hb dX9_putBytes_40 hl (k := 2) rfl (by rw [ex1]; rfl) (by decide) rfl (fun ls hl => ?_)
  refine lv_goto (tgt := 3) hx hb dX9_putBytes_43 (by decide) ?_
  exact hr3 l1 x1 _ _ _ _ _  hd (lv_sub hl [1, 2, 0] rfl) h
def KX9_putBytes_3 (r3 : Int32 → Int32 → St → Option St) (l1 : Int32) (l2 : Int32) (S : St) : Option St :=
  (if l2 < 0 then some S else (if 700 ≤ (S 0 1) then (BX9_putBytes_40 r3 l1 l2 S) else wb S 1 (S 0 1) ((l1 >>> (l2 &&& 31)).toInt8.toInt32) fun S => pf S 0 1 ((S 0 1) + 1) fun S => (BX9_putBytes_40 r3 l1 l2 S)))
set_option maxHeartbeats 4000000 in
set_option maxRecDepth 20000 in
theorem sKX9_putBytes_3 (C : Cx p s m args meth c cX9_putBytes 3 RX9 G) (hr : meth.sig.returnType = none) {r3 : Int32 → Int32 → St → Option St} (hr3 : ∀ (l1 : Int32) (l2 : Int32) (S : St) (res : St) (H : Heap) (locs : List Loc) (ls : Array Slot), Dy G S s H locs → lv_has ls 3 [(0, .ref (gR G 0)), (1, .int l1), (2, .int l2)] → r3 l1 l2 S = some res → W p l e (rmL 3 0 0) s m args below meth c H locs 0 0 (MQ below (QV G res) args s 0 0 (Ab G)) (F0 m 3 ls [])) {l1 : Int32} {l2 : Int32} {S : St} {res : St} {H : Heap} {locs : List Loc} {ls : Array Slot}  (hd : Dy G S s H locs) (hl : lv_has ls 3 [(0, .ref (gR G 0)), (1, .int l1), (2, .int l2)]) (h : KX9_putBytes_3 r3 l1 l2 S = some res) : W p l e (rmL 3 0 0) s m args below meth c H locs 0 0 (MQ below (QV G res) args s 0 0 (Ab G)) (F0 m 3 ls []) := by
  unfold KX9_putBytes_3 at h
  have hx := C.1.1
  have hb := C.1.2.1
  refine lv_iload_n hx hb dX9_putBytes_3 rfl (lv_at hl 2 rfl) ?_
  refine lv_if_lt (tgt := 46) hx hb dX9_putBytes_4 (by decide) (fun c1 => ?_) (fun c1 => ?_)
  · rw [if_pos c1] at h
    exact R_vret C hr hd h dX9_putBytes_46
  · rw [if_neg c1] at h
    refine lv_aload_n hx hb dX9_putBytes_7 rfl (lv_at hl 0 rfl) ?_
    refine gX9_71 C hd (rfl : kd 0 = 9) dX9_putBytes_8 ?_
    refine lv_sipush (v := 700) hx hb dX9_putBytes_11 (by decide) ?_
    refine lv_icmp_ge (tgt := 40) hx hb dX9_putBytes_14 (by decide) (fun c2 => ?_) (fun c2 => ?_)
    · rw [if_pos c2] at h
      exact sBX9_putBytes_40 C hr hr3  hd (lv_sub hl [0, 1, 2] rfl) h
    · rw [if_neg c2] at h
      refine lv_aload_n hx hb dX9_putBytes_17 rfl (lv_at hl 0 rfl) ?_
      refine gX9_9 C hd (rfl : kd 0 = 9) (q := 1) rfl dX9_putBytes_18 (fun y3 => ?_)
      refine lv_aload_n hx hb dX9_putBytes_21 rfl (lv_at hl 0 rfl) ?_
      refine gX9_71 C hd (rfl : kd 0 = 9) dX9_putBytes_22 ?_
      refine lv_iload_n hx hb dX9_putBytes_25 rfl (lv_at hl 1 rfl) ?_
      refine lv_iload_n hx hb dX9_putBytes_26 rfl (lv_at hl 2 rfl) ?_
      refine lv_ishr hx hb dX9_putBytes_27 ?_
      refine lv_i2b hx hb dX9_putBytes_28 rfl ?_
      refine R_bast C hd y3 h dX9_putBytes_29 (fun S H locs hd h => ?_)
      refine lv_aload_n hx hb dX9_putBytes_30 rfl (lv_at hl 0 rfl) ?_
      refine lv_dup hx hb dX9_putBytes_31 rfl ?_
      refine gX9_71 C hd (rfl : kd 0 = 9) dX9_putBytes_32 ?_
      refine lv_iconst (v := 1) hx hb dX9_putBytes_35 (by decide) ?_
      refine lv_iadd hx hb dX9_putBytes_36 ?_
      refine pX9_71 C hd (rfl : kd 0 = 9) h dX9_putBytes_37 (fun S H locs hd h => ?_)
      exact sBX9_putBytes_40 C hr hr3  hd (lv_sub hl [0, 1, 2] rfl) h
def LX9_putBytes_3 : Nat → Int32 → Int32 → St → Option St
  | 0 => fun _ _ _ => none
  | n + 1 => fun l1 l2 S => KX9_putBytes_3 (LX9_putBytes_3 n) l1 l2 S
theorem sLX9_putBytes_3 (C : Cx p s m args meth c cX9_putBytes 3 RX9 G) (hr : meth.sig.returnType = none) : ∀ (n : Nat) (l1 : Int32) (l2 : Int32) (S : St) (res : St) (H : Heap) (locs : List Loc) (ls : Array Slot), Dy G S s H locs → lv_has ls 3 [(0, .ref (gR G 0)), (1, .int l1), (2, .int l2)] → LX9_putBytes_3 n l1 l2 S = some res → W p l e (rmL 3 0 0) s m args below meth c H locs 0 0 (MQ below (QV G res) args s 0 0 (Ab G)) (F0 m 3 ls []) := by
  intro n
  induction n with
  | zero => intro l1 l2 S res H locs ls  hd hl h; cases h
  | succ n ih =>
    intro l1 l2 S res H locs ls  hd hl h
    exact sKX9_putBytes_3 C hr ih  hd hl h
def fX9_putBytes (a1 : Int32) (S : St) : Option St :=
  (LX9_putBytes_3 FU a1 24 S)
set_option maxHeartbeats 4000000 in
set_option maxRecDepth 20000 in
theorem sfX9_putBytes (C : Cx p s m args meth c cX9_putBytes 3 RX9 G) (hr : meth.sig.returnType = none) {a1 : Int32} {S : St} {res : St} {H : Heap} {locs : List Loc} {ls : Array Slot}  (hd : Dy G S s H locs) (hl : lv_has ls 3 [(0, .ref (gR G 0)), (1, .int a1)]) (h : fX9_putBytes a1 S = some res) : W p l e (rmL 3 0 0) s m args below meth c H locs 0 0 (MQ below (QV G res) args s 0 0 (Ab G)) (F0 m 0 ls []) := by
  unfold fX9_putBytes at h
  have hx := C.1.1
  have hb := C.1.2.1
  refine lv_bipush (v := 24) hx hb dX9_putBytes_0 (by decide) ?_
  refine lv_istore_n (lv' := [(2, .int 24), (0, .ref (gR G 0)), (1, .int a1)]) hx hb dX9_putBytes_2 rfl hl (by decide) rfl (fun ls hl => ?_)
  exact sLX9_putBytes_3 C hr _ a1 24 _ _ _ _ _  hd (lv_sub hl [1, 2, 0] rfl) h
set_option maxRecDepth 20000 in
theorem ccX9_putBytes (l : Launch) (G : Gt) {a1 : Int32} {S : St} {res : St}  (h : fX9_putBytes a1 S = some res) : Met l yX9_putBytes (wm yX9_putBytes cX9_putBytes 3 (none)) (rmL 3 0 0) (PcW G S [.ref (gR G 0), .int a1]) (QV G res) 0 0 (Ab G) := by
  refine Met.ofW (cc := cX9_putBytes) (maxL := 3) (ret := none) (by decide) rfl ?_
  intro p e s m args below meth c s₁ B hml hv
  obtain ⟨rfl, hK, hP⟩ := hv
  have C : Cx p s m _ meth c cX9_putBytes 3 RX9 G := ⟨⟨B.exec, B.bytes, hml, findClass_of_methodNamed B.named, fun w hw => atoms_spec (ws := wm yX9_putBytes cX9_putBytes 3 (none)) B.pre w (List.mem_cons_of_mem _ hw)⟩, B.notSynchronized, hK⟩
  have hl := lv_entry ([.ref (gR G 0), .int a1]) (n := 3) (Nat.le_of_ble_eq_true rfl)
  rw [lg_entry_eq]
  generalize (lg_sl ([.ref (gR G 0), .int a1]) ++ List.replicate (3 - (lg_sl ([.ref (gR G 0), .int a1])).length) Slot.unset).toArray = ls at hl ⊢
  exact sfX9_putBytes C B.returns  ⟨hP, va_S.rf⟩ hl h
def fX9_feed (a1 : Int32) (a2 : Int32) (a3 : Int32) (a4 : Int32) (a5 : Int32) (S : St) : Option (Int32 × St) :=
  (if ((S 0 1) + 20) ≤ 700 then bv (fX9_putBytes a1 S) fun S => bv (fX9_putBytes a2 S) fun S => bv (fX9_putBytes a3 S) fun S => bv (fX9_putBytes a4 S) fun S => bv (fX9_putBytes a5 S) fun S => ri (S 0 1) S else ri ((-1)) S)
set_option maxHeartbeats 4000000 in
set_option maxRecDepth 20000 in
theorem sfX9_feed (C : Cx p s m args meth c cX9_feed 6 RX9 G) (hr : meth.sig.returnType = some .int) {a1 : Int32} {a2 : Int32} {a3 : Int32} {a4 : Int32} {a5 : Int32} {S : St} {res : (Int32 × St)} {H : Heap} {locs : List Loc} {ls : Array Slot}  (hd : Dy G S s H locs) (hl : lv_has ls 6 [(0, .ref (gR G 0)), (1, .int a1), (2, .int a2), (3, .int a3), (4, .int a4), (5, .int a5)]) (h : fX9_feed a1 a2 a3 a4 a5 S = some res) : W p l e (rmL 4 0 0) s m args below meth c H locs 0 0 (MQ below (QI G res.1 res.2) args s 0 0 (Ab G)) (F0 m 0 ls []) := by
  unfold fX9_feed at h
  have hx := C.1.1
  have hb := C.1.2.1
  refine lv_aload_n hx hb dX9_feed_0 rfl (lv_at hl 0 rfl) ?_
  refine gX9_71 C hd (rfl : kd 0 = 9) dX9_feed_1 ?_
  refine lv_bipush (v := 20) hx hb dX9_feed_4 (by decide) ?_
  refine lv_iadd hx hb dX9_feed_6 ?_
  refine lv_sipush (v := 700) hx hb dX9_feed_7 (by decide) ?_
  refine lv_icmp_le (tgt := 15) hx hb dX9_feed_10 (by decide) (fun c1 => ?_) (fun c1 => ?_)
  · rw [if_pos c1] at h
    refine lv_aload_n hx hb dX9_feed_15 rfl (lv_at hl 0 rfl) ?_
    refine lv_iload_n hx hb dX9_feed_16 rfl (lv_at hl 1 rfl) ?_
    obtain ⟨S1, hc, h⟩ := bv_some h
    refine R_cVv C hd (ccX9_putBytes l G  hc) kX9_74 rfl (by decide) (rfl : kd 0 = 9) hl.1 ⟨by decide, by decide⟩ rfl rfl (Nat.le_of_ble_eq_true rfl) dX9_feed_17 ⟨Nat.zero_le _, Nat.zero_le _⟩ (fun H locs hd => ?_)
    generalize S1 = S at h hd
    refine lv_aload_n hx hb dX9_feed_20 rfl (lv_at hl 0 rfl) ?_
    refine lv_iload_n hx hb dX9_feed_21 rfl (lv_at hl 2 rfl) ?_
    obtain ⟨S1, hc, h⟩ := bv_some h
    refine R_cVv C hd (ccX9_putBytes l G  hc) kX9_74 rfl (by decide) (rfl : kd 0 = 9) hl.1 ⟨by decide, by decide⟩ rfl rfl (Nat.le_of_ble_eq_true rfl) dX9_feed_22 ⟨Nat.zero_le _, Nat.zero_le _⟩ (fun H locs hd => ?_)
    generalize S1 = S at h hd
    refine lv_aload_n hx hb dX9_feed_25 rfl (lv_at hl 0 rfl) ?_
    refine lv_iload_n hx hb dX9_feed_26 rfl (lv_at hl 3 rfl) ?_
    obtain ⟨S1, hc, h⟩ := bv_some h
    refine R_cVv C hd (ccX9_putBytes l G  hc) kX9_74 rfl (by decide) (rfl : kd 0 = 9) hl.1 ⟨by decide, by decide⟩ rfl rfl (Nat.le_of_ble_eq_true rfl) dX9_feed_27 ⟨Nat.zero_le _, Nat.zero_le _⟩ (fun H locs hd => ?_)
    generalize S1 = S at h hd
    refine lv_aload_n hx hb dX9_feed_30 rfl (lv_at hl 0 rfl) ?_
    refine lv_iload hx hb dX9_feed_31 (lv_at hl 4 rfl) ?_
    obtain ⟨S1, hc, h⟩ := bv_some h
    refine R_cVv C hd (ccX9_putBytes l G  hc) kX9_74 rfl (by decide) (rfl : kd 0 = 9) hl.1 ⟨by decide, by decide⟩ rfl rfl (Nat.le_of_ble_eq_true rfl) dX9_feed_33 ⟨Nat.zero_le _, Nat.zero_le _⟩ (fun H locs hd => ?_)
    generalize S1 = S at h hd
    refine lv_aload_n hx hb dX9_feed_36 rfl (lv_at hl 0 rfl) ?_
    refine lv_iload hx hb dX9_feed_37 (lv_at hl 5 rfl) ?_
    obtain ⟨S1, hc, h⟩ := bv_some h
    refine R_cVv C hd (ccX9_putBytes l G  hc) kX9_74 rfl (by decide) (rfl : kd 0 = 9) hl.1 ⟨by decide, by decide⟩ rfl rfl (Nat.le_of_ble_eq_true rfl) dX9_feed_39 ⟨Nat.zero_le _, Nat.zero_le _⟩ (fun H locs hd => ?_)
    generalize S1 = S at h hd
    refine lv_aload_n hx hb dX9_feed_42 rfl (lv_at hl 0 rfl) ?_
    refine gX9_71 C hd (rfl : kd 0 = 9) dX9_feed_43 ?_
    exact R_iret C hr hd h dX9_feed_46
  · rw [if_neg c1] at h
    refine lv_iconst (v := -1) hx hb dX9_feed_13 (by decide) ?_
    exact R_iret C hr hd h dX9_feed_14
set_option maxRecDepth 20000 in
theorem ccX9_feed (l : Launch) (G : Gt) {a1 : Int32} {a2 : Int32} {a3 : Int32} {a4 : Int32} {a5 : Int32} {S : St} {res : (Int32 × St)}  (h : fX9_feed a1 a2 a3 a4 a5 S = some res) : Met l yX9_feed (wm yX9_feed cX9_feed 6 (some .int)) (rmL 4 0 0) (PcW G S [.ref (gR G 0), .int a1, .int a2, .int a3, .int a4, .int a5]) (QI G res.1 res.2) 0 0 (Ab G) := by
  refine Met.ofW (cc := cX9_feed) (maxL := 6) (ret := (some .int)) (by decide) rfl ?_
  intro p e s m args below meth c s₁ B hml hv
  obtain ⟨rfl, hK, hP⟩ := hv
  have C : Cx p s m _ meth c cX9_feed 6 RX9 G := ⟨⟨B.exec, B.bytes, hml, findClass_of_methodNamed B.named, fun w hw => atoms_spec (ws := wm yX9_feed cX9_feed 6 (some .int)) B.pre w (List.mem_cons_of_mem _ hw)⟩, B.notSynchronized, hK⟩
  have hl := lv_entry ([.ref (gR G 0), .int a1, .int a2, .int a3, .int a4, .int a5]) (n := 6) (Nat.le_of_ble_eq_true rfl)
  rw [lg_entry_eq]
  generalize (lg_sl ([.ref (gR G 0), .int a1, .int a2, .int a3, .int a4, .int a5]) ++ List.replicate (6 - (lg_sl ([.ref (gR G 0), .int a1, .int a2, .int a3, .int a4, .int a5])).length) Slot.unset).toArray = ls at hl ⊢
  exact sfX9_feed C B.returns  ⟨hP, va_S.rf⟩ hl h
def fX9_valley (a1 : Int32) (S : St) : Option TR :=
  (if a1 < 0 then trx 2 S else (if a1 ≤ (S 0 1) then gm S 0 4 8 fun q4 => bd (fX6_tell a1 q4 S) fun x5 S => pf S 0 1 0 fun S => pf S 0 2 (S 32 4) fun S => (if x5 = 0 then gm S 0 3 8 fun q8 => gm S 0 4 8 fun q9 => pf S 0 3 (nI q9) fun S => pf S 0 4 (nI q8) fun S => gm S 0 3 8 fun q11 => bv (fX4_startAnew 36 q11 S) fun S => pz S 0 8 0 fun S => tri 0 S else bv (fX4_refuse 36 0 S) fun S => tri x5 S) else trx 2 S))
set_option maxHeartbeats 4000000 in
set_option maxRecDepth 20000 in
theorem sfX9_valley (C : Cx p s m args meth c cX9_valley 4 RX9 G) (hr : meth.sig.returnType = some .int) (ht : ∀ x ∈ c.exceptionTable.toList, False) (hst : l.stackTraces = false) {a1 : Int32} {S : St} {res : TR} {H : Heap} {locs : List Loc} {ls : Array Slot}  (hd : Dy G S s H locs) (hl : lv_has ls 4 [(0, .ref (gR G 0)), (1, .int a1)]) (h : fX9_valley a1 S = some res) : W p l e (rmL 12 1 6) s m args below meth c H locs 0 0 (vx_MQ below (QTI G res) (XT G res) args s 1 6 (Ab G)) (F0 m 0 ls []) := by
  unfold fX9_valley at h
  have hx := C.1.1
  have hb := C.1.2.1
  refine lv_iload_n hx hb dX9_valley_0 rfl (lv_at hl 1 rfl) ?_
  refine lv_if_lt (tgt := 12) hx hb dX9_valley_1 (by decide) (fun c1 => ?_) (fun c1 => ?_)
  · rw [if_pos c1] at h
    exact R_throw C hd h ht hst hl.1 ktX9_2_82 (List.mem_of_getElem? (i := 0) rfl) (Nat.le_of_ble_eq_true rfl) (Nat.le_of_ble_eq_true rfl) (Nat.le_of_ble_eq_true rfl) (Nat.le_of_ble_eq_true rfl) (Nat.le_of_ble_eq_true rfl) (Nat.le_of_ble_eq_true rfl) dX9_valley_12 dX9_valley_15 dX9_valley_16 dX9_valley_18 dX9_valley_21
  · rw [if_neg c1] at h
    refine lv_iload_n hx hb dX9_valley_4 rfl (lv_at hl 1 rfl) ?_
    refine lv_aload_n hx hb dX9_valley_5 rfl (lv_at hl 0 rfl) ?_
    refine gX9_71 C hd (rfl : kd 0 = 9) dX9_valley_6 ?_
    refine lv_icmp_le (tgt := 22) hx hb dX9_valley_9 (by decide) (fun c2 => ?_) (fun c2 => ?_)
    · rw [if_pos c2] at h
      refine lv_aload_n hx hb dX9_valley_22 rfl (lv_at hl 0 rfl) ?_
      refine gX9_28 C hd (rfl : kd 0 = 9) (q := 32) rfl dX9_valley_23 (fun y3 => ?_)
      refine lv_iload_n hx hb dX9_valley_26 rfl (lv_at hl 1 rfl) ?_
      refine lv_aload_n hx hb dX9_valley_27 rfl (lv_at hl 0 rfl) ?_
      refine gX9_20 C hd (rfl : kd 0 = 9) h dX9_valley_28 (fun q4 kq4 h => ?_)
      obtain ⟨x5, S1, hc, h⟩ := bd_some h
      refine R_cVi C hd (ccX6_tell l G kq4 hc) kX9_85 rfl (by decide) y3 hl.1 ⟨by decide, by decide⟩ rfl rfl (Nat.le_of_ble_eq_true rfl) dX9_valley_31 ⟨by decide, by decide⟩ (fun H locs hd => ?_)
      generalize S1 = S at h hd
      refine lv_istore_n (lv' := [(2, .int x5), (0, .ref (gR G 0)), (1, .int a1)]) hx hb dX9_valley_34 rfl hl (by decide) rfl (fun ls hl => ?_)
      refine lv_aload_n hx hb dX9_valley_35 rfl (lv_at hl 1 rfl) ?_
      refine lv_iconst (v := 0) hx hb dX9_valley_36 (by decide) ?_
      refine pX9_71 C hd (rfl : kd 0 = 9) h dX9_valley_37 (fun S H locs hd h => ?_)
      refine lv_aload_n hx hb dX9_valley_40 rfl (lv_at hl 1 rfl) ?_
      refine lv_aload_n hx hb dX9_valley_41 rfl (lv_at hl 1 rfl) ?_
      refine gX9_28 C hd (rfl : kd 0 = 9) (q := 32) rfl dX9_valley_42 (fun y6 => ?_)
      refine gX9_89 C hd y6 dX9_valley_45 ?_
      refine pX9_67 C hd (rfl : kd 0 = 9) h dX9_valley_48 (fun S H locs hd h => ?_)
      refine lv_iload_n hx hb dX9_valley_51 rfl (lv_at hl 0 rfl) ?_
      refine lv_if_eq (tgt := 65) hx hb dX9_valley_52 (by decide) (fun c7 => ?_) (fun c7 => ?_)
      · rw [if_pos c7] at h
        refine lv_aload_n hx hb dX9_valley_65 rfl (lv_at hl 1 rfl) ?_
        refine gX9_16 C hd (rfl : kd 0 = 9) h dX9_valley_66 (fun q8 kq8 h => ?_)
        refine lv_astore_n (lv' := [(3, .ref (gR G q8)), (2, .int x5), (0, .ref (gR G 0)), (1, .int a1)]) hx hb dX9_valley_69 rfl hl (by decide) rfl (fun ls hl => ?_)
        refine lv_aload_n hx hb dX9_valley_70 rfl (lv_at hl 2 rfl) ?_
        refine lv_aload_n hx hb dX9_valley_71 rfl (lv_at hl 2 rfl) ?_
        refine gX9_20 C hd (rfl : kd 0 = 9) h dX9_valley_72 (fun q9 kq9 h => ?_)
        refine pX9_16 C hd (rfl : kd 0 = 9) kq9 h dX9_valley_75 (fun S H locs hd h => ?_)
        refine lv_aload_n hx hb dX9_valley_78 rfl (lv_at hl 2 rfl) ?_
        refine lv_aload_n hx hb dX9_valley_79 rfl (lv_at hl 0 rfl) ?_
        refine pX9_20 C hd (rfl : kd 0 = 9) kq8 h dX9_valley_80 (fun S H locs hd h => ?_)
        refine lv_aload_n hx hb dX9_valley_83 rfl (lv_at hl 2 rfl) ?_
        refine gX9_35 C hd (rfl : kd 0 = 9) (q := 36) rfl dX9_valley_84 (fun y10 => ?_)
        refine lv_aload_n hx hb dX9_valley_87 rfl (lv_at hl 2 rfl) ?_
        refine gX9_16 C hd (rfl : kd 0 = 9) h dX9_valley_88 (fun q11 kq11 h => ?_)
        obtain ⟨S1, hc, h⟩ := bv_some h
        refine R_cVv C hd (ccX4_startAnew l G y10 kq11 hc) kX9_95 rfl (by decide) y10 hl.1 ⟨by decide, by decide⟩ rfl rfl (Nat.le_of_ble_eq_true rfl) dX9_valley_91 ⟨by decide, by decide⟩ (fun H locs hd => ?_)
        generalize S1 = S at h hd
        refine lv_aload_n hx hb dX9_valley_94 rfl (lv_at hl 2 rfl) ?_
        refine lv_iconst (v := 0) hx hb dX9_valley_95 (by decide) ?_
        refine pX9_98 C hd (rfl : kd 0 = 9) h dX9_valley_96 (fun S H locs hd h => ?_)
        refine lv_iconst (v := 0) hx hb dX9_valley_99 (by decide) ?_
        exact R_tiret C hr hd h (by decide) (by decide) dX9_valley_100
      · rw [if_neg c7] at h
        refine lv_aload_n hx hb dX9_valley_55 rfl (lv_at hl 1 rfl) ?_
        refine gX9_35 C hd (rfl : kd 0 = 9) (q := 36) rfl dX9_valley_56 (fun y12 => ?_)
        refine lv_iconst (v := 0) hx hb dX9_valley_59 (by decide) ?_
        obtain ⟨S1, hc, h⟩ := bv_some h
        refine R_cVv C hd (ccX4_refuse l G y12 hc) kX9_92 rfl (by decide) y12 hl.1 ⟨by decide, by decide⟩ rfl rfl (Nat.le_of_ble_eq_true rfl) dX9_valley_60 ⟨by decide, by decide⟩ (fun H locs hd => ?_)
        generalize S1 = S at h hd
        refine lv_iload_n hx hb dX9_valley_63 rfl (lv_at hl 0 rfl) ?_
        exact R_tiret C hr hd h (by decide) (by decide) dX9_valley_64
    · rw [if_neg c2] at h
      exact R_throw C hd h ht hst hl.1 ktX9_2_82 (List.mem_of_getElem? (i := 0) rfl) (Nat.le_of_ble_eq_true rfl) (Nat.le_of_ble_eq_true rfl) (Nat.le_of_ble_eq_true rfl) (Nat.le_of_ble_eq_true rfl) (Nat.le_of_ble_eq_true rfl) (Nat.le_of_ble_eq_true rfl) dX9_valley_12 dX9_valley_15 dX9_valley_16 dX9_valley_18 dX9_valley_21
set_option maxRecDepth 20000 in
theorem ccX9_valley (l : Launch) (G : Gt) (hst : l.stackTraces = false) {a1 : Int32} {S : St} {res : TR}  (h : fX9_valley a1 S = some res) : vx_Met l yX9_valley (wm yX9_valley cX9_valley 4 (some .int)) (rmL 12 1 6) (PcW G S [.ref (gR G 0), .int a1]) (QTI G res) (XT G res) 1 6 (Ab G) := by
  refine vx_ofW (cc := cX9_valley) (maxL := 4) (ret := (some .int)) (by decide) rfl ?_
  intro p e s m args below meth c s₁ B hml ht hv
  obtain ⟨rfl, hK, hP⟩ := hv
  have C : Cx p s m _ meth c cX9_valley 4 RX9 G := ⟨⟨B.exec, B.bytes, hml, findClass_of_methodNamed B.named, fun w hw => atoms_spec (ws := wm yX9_valley cX9_valley 4 (some .int)) B.pre w (List.mem_cons_of_mem _ hw)⟩, B.notSynchronized, hK⟩
  have hl := lv_entry ([.ref (gR G 0), .int a1]) (n := 4) (Nat.le_of_ble_eq_true rfl)
  rw [lg_entry_eq]
  generalize (lg_sl ([.ref (gR G 0), .int a1]) ++ List.replicate (4 - (lg_sl ([.ref (gR G 0), .int a1])).length) Slot.unset).toArray = ls at hl ⊢
  exact sfX9_valley C B.returns ht hst  ⟨hP, va_S.rf⟩ hl h
def fX9_fault  (S : St) : Option (Int32 × St) :=
  ri (S 0 2) S
set_option maxHeartbeats 4000000 in
set_option maxRecDepth 20000 in
theorem sfX9_fault (C : Cx p s m args meth c cX9_fault 1 RX9 G) (hr : meth.sig.returnType = some .int)  {S : St} {res : (Int32 × St)} {H : Heap} {locs : List Loc} {ls : Array Slot}  (hd : Dy G S s H locs) (hl : lv_has ls 1 [(0, .ref (gR G 0))]) (h : fX9_fault  S = some res) : W p l e (rmL 3 0 0) s m args below meth c H locs 0 0 (MQ below (QI G res.1 res.2) args s 0 0 (Ab G)) (F0 m 0 ls []) := by
  unfold fX9_fault at h
  have hx := C.1.1
  have hb := C.1.2.1
  refine lv_aload_n hx hb dX9_fault_0 rfl (lv_at hl 0 rfl) ?_
  refine gX9_67 C hd (rfl : kd 0 = 9) dX9_fault_1 ?_
  exact R_iret C hr hd h dX9_fault_4
set_option maxRecDepth 20000 in
theorem ccX9_fault (l : Launch) (G : Gt)  {S : St} {res : (Int32 × St)}  (h : fX9_fault  S = some res) : Met l yX9_fault (wm yX9_fault cX9_fault 1 (some .int)) (rmL 3 0 0) (PcW G S [.ref (gR G 0)]) (QI G res.1 res.2) 0 0 (Ab G) := by
  refine Met.ofW (cc := cX9_fault) (maxL := 1) (ret := (some .int)) (by decide) rfl ?_
  intro p e s m args below meth c s₁ B hml hv
  obtain ⟨rfl, hK, hP⟩ := hv
  have C : Cx p s m _ meth c cX9_fault 1 RX9 G := ⟨⟨B.exec, B.bytes, hml, findClass_of_methodNamed B.named, fun w hw => atoms_spec (ws := wm yX9_fault cX9_fault 1 (some .int)) B.pre w (List.mem_cons_of_mem _ hw)⟩, B.notSynchronized, hK⟩
  have hl := lv_entry ([.ref (gR G 0)]) (n := 1) (Nat.le_of_ble_eq_true rfl)
  rw [lg_entry_eq]
  generalize (lg_sl ([.ref (gR G 0)]) ++ List.replicate (1 - (lg_sl ([.ref (gR G 0)])).length) Slot.unset).toArray = ls at hl ⊢
  exact sfX9_fault C B.returns  ⟨hP, va_S.rf⟩ hl h
def BX9_count_125 (l1 : Int32) (S : St) : Option TR :=
  rd S 82 (l1 - 8) fun x3 => tri x3 S
set_option maxHeartbeats 4000000 in
set_option maxRecDepth 20000 in
theorem sBX9_count_125 (C : Cx p s m args meth c cX9_count 2 RX9 G) (hr : meth.sig.returnType = some .int) (ht : ∀ x ∈ c.exceptionTable.toList, False) (hst : l.stackTraces = false) {l1 : Int32} {S : St} {res : TR} {H : Heap} {locs : List Loc} {ls : Array Slot}  (hd : Dy G S s H locs) (hl : lv_has ls 2 [(0, .ref (gR G 0)), (1, .int l1)]) (h : BX9_count_125 l1 S = some res) : W p l e (rmL 6 1 6) s m args below meth c H locs 0 0 (vx_MQ below (QTI G res) (XT G res) args s 1 6 (Ab G)) (F0 m 125 ls []) := by
  unfold BX9_count_125 at h
  have hx := C.1.1
  have hb := C.1.2.1
  refine lv_aload_n hx hb dX9_count_125 rfl (lv_at hl 0 rfl) ?_
  refine gX9_35 C hd (rfl : kd 0 = 9) (q := 36) rfl dX9_count_126 (fun y1 => ?_)
  refine gX9_121 C hd y1 (q := 82) rfl dX9_count_129 (fun y2 => ?_)
  refine lv_iload_n hx hb dX9_count_132 rfl (lv_at hl 1 rfl) ?_
  refine lv_bipush (v := 8) hx hb dX9_count_133 (by decide) ?_
  refine lv_isub hx hb dX9_count_135 ?_
  refine R_iald C hd y2 h dX9_count_136 (fun x3 h => ?_)
  exact R_tiret C hr hd h (by decide) (by decide) dX9_count_137
def fX9_count (a1 : Int32) (S : St) : Option TR :=
  (if a1 = 0 then gm S 0 3 8 fun q2 => tri (S q2 0) S else (if a1 = 1 then gm S 0 3 8 fun q4 => tri (S q4 1) S else (if a1 = 2 then gm S 0 3 8 fun q6 => tri (S q6 2) S else (if a1 = 3 then rd S 37 0 fun x10 => tri x10 S else (if a1 = 4 then rd S 37 1 fun x14 => tri x14 S else (if a1 = 5 then tri (S 36 3) S else (if a1 = 6 then tri (S 36 4) S else (if a1 = 7 then tri (S 0 1) S else (if a1 = 8 then (BX9_count_125 a1 S) else (if a1 = 9 then (BX9_count_125 a1 S) else (if a1 = 10 then (BX9_count_125 a1 S) else trx 1 S)))))))))))
set_option maxHeartbeats 4000000 in
set_option maxRecDepth 20000 in
theorem sfX9_count (C : Cx p s m args meth c cX9_count 2 RX9 G) (hr : meth.sig.returnType = some .int) (ht : ∀ x ∈ c.exceptionTable.toList, False) (hst : l.stackTraces = false) {a1 : Int32} {S : St} {res : TR} {H : Heap} {locs : List Loc} {ls : Array Slot}  (hd : Dy G S s H locs) (hl : lv_has ls 2 [(0, .ref (gR G 0)), (1, .int a1)]) (h : fX9_count a1 S = some res) : W p l e (rmL 6 1 6) s m args below meth c H locs 0 0 (vx_MQ below (QTI G res) (XT G res) args s 1 6 (Ab G)) (F0 m 0 ls []) := by
  unfold fX9_count at h
  have hx := C.1.1
  have hb := C.1.2.1
  refine lv_iload_n hx hb dX9_count_0 rfl (lv_at hl 1 rfl) ?_
  by_cases c1 : a1 = 0
  · rw [if_pos c1] at h
    refine lv_tableIn (tgt := 60) hx hb dX9_count_1 (by rw [c1]; decide) (by rw [c1]; decide) (by rw [c1] <;> rfl) (by decide) ?_
    refine lv_aload_n hx hb dX9_count_60 rfl (lv_at hl 0 rfl) ?_
    refine gX9_16 C hd (rfl : kd 0 = 9) h dX9_count_61 (fun q2 kq2 h => ?_)
    refine gX9_102 C hd kq2 dX9_count_64 ?_
    exact R_tiret C hr hd h (by decide) (by decide) dX9_count_67
  rw [if_neg c1] at h
  by_cases c3 : a1 = 1
  · rw [if_pos c3] at h
    refine lv_tableIn (tgt := 68) hx hb dX9_count_1 (by rw [c3]; decide) (by rw [c3]; decide) (by rw [c3] <;> rfl) (by decide) ?_
    refine lv_aload_n hx hb dX9_count_68 rfl (lv_at hl 0 rfl) ?_
    refine gX9_16 C hd (rfl : kd 0 = 9) h dX9_count_69 (fun q4 kq4 h => ?_)
    refine gX9_105 C hd kq4 dX9_count_72 ?_
    exact R_tiret C hr hd h (by decide) (by decide) dX9_count_75
  rw [if_neg c3] at h
  by_cases c5 : a1 = 2
  · rw [if_pos c5] at h
    refine lv_tableIn (tgt := 76) hx hb dX9_count_1 (by rw [c5]; decide) (by rw [c5]; decide) (by rw [c5] <;> rfl) (by decide) ?_
    refine lv_aload_n hx hb dX9_count_76 rfl (lv_at hl 0 rfl) ?_
    refine gX9_16 C hd (rfl : kd 0 = 9) h dX9_count_77 (fun q6 kq6 h => ?_)
    refine gX9_108 C hd kq6 dX9_count_80 ?_
    exact R_tiret C hr hd h (by decide) (by decide) dX9_count_83
  rw [if_neg c5] at h
  by_cases c7 : a1 = 3
  · rw [if_pos c7] at h
    refine lv_tableIn (tgt := 84) hx hb dX9_count_1 (by rw [c7]; decide) (by rw [c7]; decide) (by rw [c7] <;> rfl) (by decide) ?_
    refine lv_aload_n hx hb dX9_count_84 rfl (lv_at hl 0 rfl) ?_
    refine gX9_35 C hd (rfl : kd 0 = 9) (q := 36) rfl dX9_count_85 (fun y8 => ?_)
    refine gX9_111 C hd y8 (q := 37) rfl dX9_count_88 (fun y9 => ?_)
    refine lv_iconst (v := 0) hx hb dX9_count_91 (by decide) ?_
    refine R_iald C hd y9 h dX9_count_92 (fun x10 h => ?_)
    exact R_tiret C hr hd h (by decide) (by decide) dX9_count_93
  rw [if_neg c7] at h
  by_cases c11 : a1 = 4
  · rw [if_pos c11] at h
    refine lv_tableIn (tgt := 94) hx hb dX9_count_1 (by rw [c11]; decide) (by rw [c11]; decide) (by rw [c11] <;> rfl) (by decide) ?_
    refine lv_aload_n hx hb dX9_count_94 rfl (lv_at hl 0 rfl) ?_
    refine gX9_35 C hd (rfl : kd 0 = 9) (q := 36) rfl dX9_count_95 (fun y12 => ?_)
    refine gX9_111 C hd y12 (q := 37) rfl dX9_count_98 (fun y13 => ?_)
    refine lv_iconst (v := 1) hx hb dX9_count_101 (by decide) ?_
    refine R_iald C hd y13 h dX9_count_102 (fun x14 h => ?_)
    exact R_tiret C hr hd h (by decide) (by decide) dX9_count_103
  rw [if_neg c11] at h
  by_cases c15 : a1 = 5
  · rw [if_pos c15] at h
    refine lv_tableIn (tgt := 104) hx hb dX9_count_1 (by rw [c15]; decide) (by rw [c15]; decide) (by rw [c15] <;> rfl) (by decide) ?_
    refine lv_aload_n hx hb dX9_count_104 rfl (lv_at hl 0 rfl) ?_
    refine gX9_35 C hd (rfl : kd 0 = 9) (q := 36) rfl dX9_count_105 (fun y16 => ?_)
    refine gX9_115 C hd y16 dX9_count_108 ?_
    exact R_tiret C hr hd h (by decide) (by decide) dX9_count_111
  rw [if_neg c15] at h
  by_cases c17 : a1 = 6
  · rw [if_pos c17] at h
    refine lv_tableIn (tgt := 112) hx hb dX9_count_1 (by rw [c17]; decide) (by rw [c17]; decide) (by rw [c17] <;> rfl) (by decide) ?_
    refine lv_aload_n hx hb dX9_count_112 rfl (lv_at hl 0 rfl) ?_
    refine gX9_35 C hd (rfl : kd 0 = 9) (q := 36) rfl dX9_count_113 (fun y18 => ?_)
    refine gX9_118 C hd y18 dX9_count_116 ?_
    exact R_tiret C hr hd h (by decide) (by decide) dX9_count_119
  rw [if_neg c17] at h
  by_cases c19 : a1 = 7
  · rw [if_pos c19] at h
    refine lv_tableIn (tgt := 120) hx hb dX9_count_1 (by rw [c19]; decide) (by rw [c19]; decide) (by rw [c19] <;> rfl) (by decide) ?_
    refine lv_aload_n hx hb dX9_count_120 rfl (lv_at hl 0 rfl) ?_
    refine gX9_71 C hd (rfl : kd 0 = 9) dX9_count_121 ?_
    exact R_tiret C hr hd h (by decide) (by decide) dX9_count_124
  rw [if_neg c19] at h
  by_cases c20 : a1 = 8
  · rw [if_pos c20] at h
    refine lv_tableIn (tgt := 125) hx hb dX9_count_1 (by rw [c20]; decide) (by rw [c20]; decide) (by rw [c20] <;> rfl) (by decide) ?_
    exact sBX9_count_125 C hr ht hst  hd (lv_sub hl [0, 1] rfl) h
  rw [if_neg c20] at h
  by_cases c21 : a1 = 9
  · rw [if_pos c21] at h
    refine lv_tableIn (tgt := 125) hx hb dX9_count_1 (by rw [c21]; decide) (by rw [c21]; decide) (by rw [c21] <;> rfl) (by decide) ?_
    exact sBX9_count_125 C hr ht hst  hd (lv_sub hl [0, 1] rfl) h
  rw [if_neg c21] at h
  by_cases c22 : a1 = 10
  · rw [if_pos c22] at h
    refine lv_tableIn (tgt := 125) hx hb dX9_count_1 (by rw [c22]; decide) (by rw [c22]; decide) (by rw [c22] <;> rfl) (by decide) ?_
    exact sBX9_count_125 C hr ht hst  hd (lv_sub hl [0, 1] rfl) h
  rw [if_neg c22] at h
  refine R_tab (tgt := 138) C dX9_count_1 (by decide) [0, 1, 2, 3, 4, 5, 6, 7, 8, 9, 10] (by decide) ?_ ?_
  · intro z hz; simp only [List.mem_cons, List.not_mem_nil, or_false] at hz; rcases hz with rfl | rfl | rfl | rfl | rfl | rfl | rfl | rfl | rfl | rfl | rfl <;> assumption
  exact R_throw C hd h ht hst hl.1 ktX9_1_128 (List.mem_of_getElem? (i := 20) rfl) (Nat.le_of_ble_eq_true rfl) (Nat.le_of_ble_eq_true rfl) (Nat.le_of_ble_eq_true rfl) (Nat.le_of_ble_eq_true rfl) (Nat.le_of_ble_eq_true rfl) (Nat.le_of_ble_eq_true rfl) dX9_count_138 dX9_count_141 dX9_count_142 dX9_count_144 dX9_count_147
set_option maxRecDepth 20000 in
theorem ccX9_count (l : Launch) (G : Gt) (hst : l.stackTraces = false) {a1 : Int32} {S : St} {res : TR}  (h : fX9_count a1 S = some res) : vx_Met l yX9_count (wm yX9_count cX9_count 2 (some .int)) (rmL 6 1 6) (PcW G S [.ref (gR G 0), .int a1]) (QTI G res) (XT G res) 1 6 (Ab G) := by
  refine vx_ofW (cc := cX9_count) (maxL := 2) (ret := (some .int)) (by decide) rfl ?_
  intro p e s m args below meth c s₁ B hml ht hv
  obtain ⟨rfl, hK, hP⟩ := hv
  have C : Cx p s m _ meth c cX9_count 2 RX9 G := ⟨⟨B.exec, B.bytes, hml, findClass_of_methodNamed B.named, fun w hw => atoms_spec (ws := wm yX9_count cX9_count 2 (some .int)) B.pre w (List.mem_cons_of_mem _ hw)⟩, B.notSynchronized, hK⟩
  have hl := lv_entry ([.ref (gR G 0), .int a1]) (n := 2) (Nat.le_of_ble_eq_true rfl)
  rw [lg_entry_eq]
  generalize (lg_sl ([.ref (gR G 0), .int a1]) ++ List.replicate (2 - (lg_sl ([.ref (gR G 0), .int a1])).length) Slot.unset).toArray = ls at hl ⊢
  exact sfX9_count C B.returns ht hst  ⟨hP, va_S.rf⟩ hl h
def fX9_needField (a1 : Int32) (S : St) : Option TR :=
  (if a1 < 0 then trx 1 S else gm S 0 3 8 fun q2 => (if a1 < (S q2 0) then tri 0 S else trx 1 S))
set_option maxHeartbeats 4000000 in
set_option maxRecDepth 20000 in
theorem sfX9_needField (C : Cx p s m args meth c cX9_needField 2 RX9 G) (hr : meth.sig.returnType = none) (ht : ∀ x ∈ c.exceptionTable.toList, False) (hst : l.stackTraces = false) {a1 : Int32} {S : St} {res : TR} {H : Heap} {locs : List Loc} {ls : Array Slot}  (hd : Dy G S s H locs) (hl : lv_has ls 2 [(0, .ref (gR G 0)), (1, .int a1)]) (h : fX9_needField a1 S = some res) : W p l e (rmL 6 1 6) s m args below meth c H locs 0 0 (vx_MQ below (QTV G res) (XT G res) args s 1 6 (Ab G)) (F0 m 0 ls []) := by
  unfold fX9_needField at h
  have hx := C.1.1
  have hb := C.1.2.1
  refine lv_iload_n hx hb dX9_needField_0 rfl (lv_at hl 1 rfl) ?_
  refine lv_if_lt (tgt := 15) hx hb dX9_needField_1 (by decide) (fun c1 => ?_) (fun c1 => ?_)
  · rw [if_pos c1] at h
    exact R_throwW C hd h ht hst hl.1 ktX9_1_128 (List.mem_of_getElem? (i := 21) rfl) (Nat.le_of_ble_eq_true rfl) (Nat.le_of_ble_eq_true rfl) (Nat.le_of_ble_eq_true rfl) (Nat.le_of_ble_eq_true rfl) (Nat.le_of_ble_eq_true rfl) (Nat.le_of_ble_eq_true rfl) dX9_needField_15 dX9_needField_18 dX9_needField_19 dX9_needField_22 dX9_needField_25
  · rw [if_neg c1] at h
    refine lv_iload_n hx hb dX9_needField_4 rfl (lv_at hl 1 rfl) ?_
    refine lv_aload_n hx hb dX9_needField_5 rfl (lv_at hl 0 rfl) ?_
    refine gX9_16 C hd (rfl : kd 0 = 9) h dX9_needField_6 (fun q2 kq2 h => ?_)
    refine gX9_102 C hd kq2 dX9_needField_9 ?_
    refine lv_icmp_lt (tgt := 26) hx hb dX9_needField_12 (by decide) (fun c3 => ?_) (fun c3 => ?_)
    · rw [if_pos c3] at h
      exact R_tvret C hr hd h (by decide) (by decide) dX9_needField_26
    · rw [if_neg c3] at h
      exact R_throwW C hd h ht hst hl.1 ktX9_1_128 (List.mem_of_getElem? (i := 21) rfl) (Nat.le_of_ble_eq_true rfl) (Nat.le_of_ble_eq_true rfl) (Nat.le_of_ble_eq_true rfl) (Nat.le_of_ble_eq_true rfl) (Nat.le_of_ble_eq_true rfl) (Nat.le_of_ble_eq_true rfl) dX9_needField_15 dX9_needField_18 dX9_needField_19 dX9_needField_22 dX9_needField_25
set_option maxRecDepth 20000 in
theorem ccX9_needField (l : Launch) (G : Gt) (hst : l.stackTraces = false) {a1 : Int32} {S : St} {res : TR}  (h : fX9_needField a1 S = some res) : vx_Met l yX9_needField (wm yX9_needField cX9_needField 2 (none)) (rmL 6 1 6) (PcW G S [.ref (gR G 0), .int a1]) (QTV G res) (XT G res) 1 6 (Ab G) := by
  refine vx_ofW (cc := cX9_needField) (maxL := 2) (ret := none) (by decide) rfl ?_
  intro p e s m args below meth c s₁ B hml ht hv
  obtain ⟨rfl, hK, hP⟩ := hv
  have C : Cx p s m _ meth c cX9_needField 2 RX9 G := ⟨⟨B.exec, B.bytes, hml, findClass_of_methodNamed B.named, fun w hw => atoms_spec (ws := wm yX9_needField cX9_needField 2 (none)) B.pre w (List.mem_cons_of_mem _ hw)⟩, B.notSynchronized, hK⟩
  have hl := lv_entry ([.ref (gR G 0), .int a1]) (n := 2) (Nat.le_of_ble_eq_true rfl)
  rw [lg_entry_eq]
  generalize (lg_sl ([.ref (gR G 0), .int a1]) ++ List.replicate (2 - (lg_sl ([.ref (gR G 0), .int a1])).length) Slot.unset).toArray = ls at hl ⊢
  exact sfX9_needField C B.returns ht hst  ⟨hP, va_S.rf⟩ hl h
def BX9_whoIsIn_40 (r4 : Int32 → Int32 → Int32 → St → Option (Int32 × St)) (l1 : Int32) (l2 : Int32) (l3 : Int32) (S : St) : Option (Int32 × St) :=
  vl (l3 + 1) fun x1 => (r4 l1 l2 x1 S)
set_option maxHeartbeats 4000000 in
set_option maxRecDepth 20000 in
theorem sBX9_whoIsIn_40 (C : Cx p s m args meth c cX9_whoIsIn 4 RX9 G) (hr : meth.sig.returnType = some .int) {r4 : Int32 → Int32 → Int32 → St → Option (Int32 × St)} (hr4 : ∀ (l1 : Int32) (l2 : Int32) (l3 : Int32) (S : St) (res : (Int32 × St)) (H : Heap) (locs : List Loc) (ls : Array Slot), Dy G S s H locs → lv_has ls 4 [(0, .ref (gR G 0)), (1, .int l1), (2, .int l2), (3, .int l3)] → r4 l1 l2 l3 S = some res → W p l e (rmL 4 0 0) s m args below meth c H locs 0 0 (MQ below (QI G res.1 res.2) args s 0 0 (Ab G)) (F0 m 4 ls [])) {l1 : Int32} {l2 : Int32} {l3 : Int32} {S : St} {res : (Int32 × St)} {H : Heap} {locs : List Loc} {ls : Array Slot}  (hd : Dy G S s H locs) (hl : lv_has ls 4 [(0, .ref (gR G 0)), (1, .int l1), (2, .int l2), (3, .int l3)]) (h : BX9_whoIsIn_40 r4 l1 l2 l3 S = some res) : W p l e (rmL 4 0 0) s m args below meth c H locs 0 0 (MQ below (QI G res.1 res.2) args s 0 0 (Ab G)) (F0 m 40 ls []) := by
  unfold BX9_whoIsIn_40 at h
  have hx := C.1.1
  have hb := C.1.2.1
  refine R_vi h (fun x1 ex1 h => ?_)
  refine lv_iinc (v := x1) (lv' := [(3, .int x1), (0, .ref (gR G 0)), (1, .int l1), (2, .int l2)]) hx hb dX9_whoIsIn_40 hl (k := 3) rfl (by rw [ex1]; rfl) (by decide) rfl (fun ls hl => ?_)
  refine lv_goto (tgt := 4) hx hb dX9_whoIsIn_43 (by decide) ?_
  exact hr4 l1 l2 x1 _ _ _ _ _  hd (lv_sub hl [1, 2, 3, 0] rfl) h
def KX9_whoIsIn_4 (r4 : Int32 → Int32 → Int32 → St → Option (Int32 × St)) (l1 : Int32) (l2 : Int32) (l3 : Int32) (S : St) : Option (Int32 × St) :=
  gm S 0 3 8 fun q1 => (if (S q1 2) ≤ l3 then ri l2 S else gm S 0 3 8 fun q3 => bd (fX8_placeOf q3 37 l3 S) fun x6 S => (if x6 = l1 then vl (l2 ||| ((1 : Int32) <<< (l3 &&& 31))) fun x8 => (BX9_whoIsIn_40 r4 l1 x8 l3 S) else (BX9_whoIsIn_40 r4 l1 l2 l3 S)))
set_option maxHeartbeats 4000000 in
set_option maxRecDepth 20000 in
theorem sKX9_whoIsIn_4 (C : Cx p s m args meth c cX9_whoIsIn 4 RX9 G) (hr : meth.sig.returnType = some .int) {r4 : Int32 → Int32 → Int32 → St → Option (Int32 × St)} (hr4 : ∀ (l1 : Int32) (l2 : Int32) (l3 : Int32) (S : St) (res : (Int32 × St)) (H : Heap) (locs : List Loc) (ls : Array Slot), Dy G S s H locs → lv_has ls 4 [(0, .ref (gR G 0)), (1, .int l1), (2, .int l2), (3, .int l3)] → r4 l1 l2 l3 S = some res → W p l e (rmL 4 0 0) s m args below meth c H locs 0 0 (MQ below (QI G res.1 res.2) args s 0 0 (Ab G)) (F0 m 4 ls [])) {l1 : Int32} {l2 : Int32} {l3 : Int32} {S : St} {res : (Int32 × St)} {H : Heap} {locs : List Loc} {ls : Array Slot}  (hd : Dy G S s H locs) (hl : lv_has ls 4 [(0, .ref (gR G 0)), (1, .int l1), (2, .int l2), (3, .int l3)]) (h : KX9_whoIsIn_4 r4 l1 l2 l3 S = some res) : W p l e (rmL 4 0 0) s m args below meth c H locs 0 0 (MQ below (QI G res.1 res.2) args s 0 0 (Ab G)) (F0 m 4 ls []) := by
  unfold KX9_whoIsIn_4 at h
  have hx := C.1.1
  have hb := C.1.2.1
  refine lv_iload_n hx hb dX9_whoIsIn_4 rfl (lv_at hl 3 rfl) ?_
  refine lv_aload_n hx hb dX9_whoIsIn_5 rfl (lv_at hl 0 rfl) ?_
  refine gX9_16 C hd (rfl : kd 0 = 9) h dX9_whoIsIn_6 (fun q1 kq1 h => ?_)
  refine gX9_108 C hd kq1 dX9_whoIsIn_9 ?_
  refine lv_icmp_ge (tgt := 46) hx hb dX9_whoIsIn_12 (by decide) (fun c2 => ?_) (fun c2 => ?_)
  · rw [if_pos c2] at h
    refine lv_iload_n hx hb dX9_whoIsIn_46 rfl (lv_at hl 2 rfl) ?_
    exact R_iret C hr hd h dX9_whoIsIn_47
  · rw [if_neg c2] at h
    refine lv_aload_n hx hb dX9_whoIsIn_15 rfl (lv_at hl 0 rfl) ?_
    refine gX9_16 C hd (rfl : kd 0 = 9) h dX9_whoIsIn_16 (fun q3 kq3 h => ?_)
    refine lv_aload_n hx hb dX9_whoIsIn_19 rfl (lv_at hl 0 rfl) ?_
    refine gX9_35 C hd (rfl : kd 0 = 9) (q := 36) rfl dX9_whoIsIn_20 (fun y4 => ?_)
    refine gX9_111 C hd y4 (q := 37) rfl dX9_whoIsIn_23 (fun y5 => ?_)
    refine lv_iload_n hx hb dX9_whoIsIn_26 rfl (lv_at hl 3 rfl) ?_
    obtain ⟨x6, S1, hc, h⟩ := bd_some h
    refine R_cVi C hd (ccX8_placeOf l G kq3 y5 hc) kX9_151 rfl (by decide) kq3 hl.1 ⟨by decide, by decide⟩ rfl rfl (Nat.le_of_ble_eq_true rfl) dX9_whoIsIn_27 ⟨Nat.zero_le _, Nat.zero_le _⟩ (fun H locs hd => ?_)
    generalize S1 = S at h hd
    refine lv_iload_n hx hb dX9_whoIsIn_30 rfl (lv_at hl 1 rfl) ?_
    refine lv_icmp_ne (tgt := 40) hx hb dX9_whoIsIn_31 (by decide) (fun c7 => ?_) (fun c7 => ?_)
    · rw [if_neg c7] at h
      exact sBX9_whoIsIn_40 C hr hr4  hd (lv_sub hl [0, 1, 2, 3] rfl) h
    · rw [if_pos c7] at h
      refine lv_iload_n hx hb dX9_whoIsIn_34 rfl (lv_at hl 2 rfl) ?_
      refine lv_iconst (v := 1) hx hb dX9_whoIsIn_35 (by decide) ?_
      refine lv_iload_n hx hb dX9_whoIsIn_36 rfl (lv_at hl 3 rfl) ?_
      refine lv_ishl hx hb dX9_whoIsIn_37 ?_
      refine lv_ior hx hb dX9_whoIsIn_38 ?_
      refine R_vl h (fun x8 h => ?_)
      refine lv_istore_n (lv' := [(2, .int x8), (0, .ref (gR G 0)), (1, .int l1), (3, .int l3)]) hx hb dX9_whoIsIn_39 rfl hl (by decide) rfl (fun ls hl => ?_)
      exact sBX9_whoIsIn_40 C hr hr4  hd (lv_sub hl [1, 2, 0, 3] rfl) h
def LX9_whoIsIn_4 : Nat → Int32 → Int32 → Int32 → St → Option (Int32 × St)
  | 0 => fun _ _ _ _ => none
  | n + 1 => fun l1 l2 l3 S => KX9_whoIsIn_4 (LX9_whoIsIn_4 n) l1 l2 l3 S
theorem sLX9_whoIsIn_4 (C : Cx p s m args meth c cX9_whoIsIn 4 RX9 G) (hr : meth.sig.returnType = some .int) : ∀ (n : Nat) (l1 : Int32) (l2 : Int32) (l3 : Int32) (S : St) (res : (Int32 × St)) (H : Heap) (locs : List Loc) (ls : Array Slot), Dy G S s H locs → lv_has ls 4 [(0, .ref (gR G 0)), (1, .int l1), (2, .int l2), (3, .int l3)] → LX9_whoIsIn_4 n l1 l2 l3 S = some res → W p l e (rmL 4 0 0) s m args below meth c H locs 0 0 (MQ below (QI G res.1 res.2) args s 0 0 (Ab G)) (F0 m 4 ls []) := by
  intro n
  induction n with
  | zero => intro l1 l2 l3 S res H locs ls  hd hl h; cases h
  | succ n ih =>
    intro l1 l2 l3 S res H locs ls  hd hl h
    exact sKX9_whoIsIn_4 C hr ih  hd hl h
def fX9_whoIsIn (a1 : Int32) (S : St) : Option (Int32 × St) :=
  (LX9_whoIsIn_4 FU a1 0 0 S)
set_option maxHeartbeats 4000000 in
set_option maxRecDepth 20000 in
theorem sfX9_whoIsIn (C : Cx p s m args meth c cX9_whoIsIn 4 RX9 G) (hr : meth.sig.returnType = some .int) {a1 : Int32} {S : St} {res : (Int32 × St)} {H : Heap} {locs : List Loc} {ls : Array Slot}  (hd : Dy G S s H locs) (hl : lv_has ls 4 [(0, .ref (gR G 0)), (1, .int a1)]) (h : fX9_whoIsIn a1 S = some res) : W p l e (rmL 4 0 0) s m args below meth c H locs 0 0 (MQ below (QI G res.1 res.2) args s 0 0 (Ab G)) (F0 m 0 ls []) := by
  unfold fX9_whoIsIn at h
  have hx := C.1.1
  have hb := C.1.2.1
  refine lv_iconst (v := 0) hx hb dX9_whoIsIn_0 (by decide) ?_
  refine lv_istore_n (lv' := [(2, .int 0), (0, .ref (gR G 0)), (1, .int a1)]) hx hb dX9_whoIsIn_1 rfl hl (by decide) rfl (fun ls hl => ?_)
  refine lv_iconst (v := 0) hx hb dX9_whoIsIn_2 (by decide) ?_
  refine lv_istore_n (lv' := [(3, .int 0), (2, .int 0), (0, .ref (gR G 0)), (1, .int a1)]) hx hb dX9_whoIsIn_3 rfl hl (by decide) rfl (fun ls hl => ?_)
  exact sLX9_whoIsIn_4 C hr _ a1 0 0 _ _ _ _ _  hd (lv_sub hl [2, 3, 1, 0] rfl) h
set_option maxRecDepth 20000 in
theorem ccX9_whoIsIn (l : Launch) (G : Gt) {a1 : Int32} {S : St} {res : (Int32 × St)}  (h : fX9_whoIsIn a1 S = some res) : Met l yX9_whoIsIn (wm yX9_whoIsIn cX9_whoIsIn 4 (some .int)) (rmL 4 0 0) (PcW G S [.ref (gR G 0), .int a1]) (QI G res.1 res.2) 0 0 (Ab G) := by
  refine Met.ofW (cc := cX9_whoIsIn) (maxL := 4) (ret := (some .int)) (by decide) rfl ?_
  intro p e s m args below meth c s₁ B hml hv
  obtain ⟨rfl, hK, hP⟩ := hv
  have C : Cx p s m _ meth c cX9_whoIsIn 4 RX9 G := ⟨⟨B.exec, B.bytes, hml, findClass_of_methodNamed B.named, fun w hw => atoms_spec (ws := wm yX9_whoIsIn cX9_whoIsIn 4 (some .int)) B.pre w (List.mem_cons_of_mem _ hw)⟩, B.notSynchronized, hK⟩
  have hl := lv_entry ([.ref (gR G 0), .int a1]) (n := 4) (Nat.le_of_ble_eq_true rfl)
  rw [lg_entry_eq]
  generalize (lg_sl ([.ref (gR G 0), .int a1]) ++ List.replicate (4 - (lg_sl ([.ref (gR G 0), .int a1])).length) Slot.unset).toArray = ls at hl ⊢
  exact sfX9_whoIsIn C B.returns  ⟨hP, va_S.rf⟩ hl h
def fX9_field (a1 : Int32) (a2 : Int32) (S : St) : Option TR :=
  bt (fX9_needField a1 S) fun x1 S => (if a2 = 0 then gm S 0 3 8 fun q3 => rd S (sr q3 3) a1 fun x5 => tri x5 S else (if a2 = 1 then gm S 0 3 8 fun q7 => rd S (sr q7 4) a1 fun x9 => tri x9 S else (if a2 = 2 then rd S 37 (98 + a1) fun x13 => tri x13 S else (if a2 = 3 then bd (fX9_whoIsIn a1 S) fun x15 S => tri x15 S else (if a2 = 4 then gm S 0 3 8 fun q18 => bd (fX5_thirds q18 a1 S) fun x19 S => tri x19 S else (if a2 = 5 then gm S 0 3 8 fun q21 => rd S (sr q21 6) a1 fun x23 => tri x23 S else trx 1 S))))))
set_option maxHeartbeats 4000000 in
set_option maxRecDepth 20000 in
theorem sfX9_field (C : Cx p s m args meth c cX9_field 3 RX9 G) (hr : meth.sig.returnType = some .int) (ht : ∀ x ∈ c.exceptionTable.toList, False) (hst : l.stackTraces = false) {a1 : Int32} {a2 : Int32} {S : St} {res : TR} {H : Heap} {locs : List Loc} {ls : Array Slot}  (hd : Dy G S s H locs) (hl : lv_has ls 3 [(0, .ref (gR G 0)), (1, .int a1), (2, .int a2)]) (h : fX9_field a1 a2 S = some res) : W p l e (rmL 7 2 12) s m args below meth c H locs 0 0 (vx_MQ below (QTI G res) (XT G res) args s 2 12 (Ab G)) (F0 m 0 ls []) := by
  unfold fX9_field at h
  have hx := C.1.1
  have hb := C.1.2.1
  refine lv_aload_n hx hb dX9_field_0 rfl (lv_at hl 0 rfl) ?_
  refine lv_iload_n hx hb dX9_field_1 rfl (lv_at hl 1 rfl) ?_
  refine R_tVv C hd ht hst h (fun r0 hc => ccX9_needField l G hst  hc) kX9_129 rfl (by decide) (rfl : kd 0 = 9) hl.1 ⟨by decide, by decide⟩ rfl rfl (Nat.le_of_ble_eq_true rfl) dX9_field_2 ⟨by decide, by decide⟩ (by decide) (by decide) (fun x1 S H locs hd h => ?_)
  refine lv_iload_n hx hb dX9_field_5 rfl (lv_at hl 2 rfl) ?_
  by_cases c2 : a2 = 0
  · rw [if_pos c2] at h
    refine lv_tableIn (tgt := 44) hx hb dX9_field_6 (by rw [c2]; decide) (by rw [c2]; decide) (by rw [c2] <;> rfl) (by decide) ?_
    refine lv_aload_n hx hb dX9_field_44 rfl (lv_at hl 0 rfl) ?_
    refine gX9_16 C hd (rfl : kd 0 = 9) h dX9_field_45 (fun q3 kq3 h => ?_)
    refine gX9_132 C hd kq3 (q := sr q3 3) rfl dX9_field_48 (fun y4 => ?_)
    refine lv_iload_n hx hb dX9_field_51 rfl (lv_at hl 1 rfl) ?_
    refine R_iald C hd y4 h dX9_field_52 (fun x5 h => ?_)
    exact R_tiret C hr hd h (by decide) (by decide) dX9_field_53
  rw [if_neg c2] at h
  by_cases c6 : a2 = 1
  · rw [if_pos c6] at h
    refine lv_tableIn (tgt := 54) hx hb dX9_field_6 (by rw [c6]; decide) (by rw [c6]; decide) (by rw [c6] <;> rfl) (by decide) ?_
    refine lv_aload_n hx hb dX9_field_54 rfl (lv_at hl 0 rfl) ?_
    refine gX9_16 C hd (rfl : kd 0 = 9) h dX9_field_55 (fun q7 kq7 h => ?_)
    refine gX9_135 C hd kq7 (q := sr q7 4) rfl dX9_field_58 (fun y8 => ?_)
    refine lv_iload_n hx hb dX9_field_61 rfl (lv_at hl 1 rfl) ?_
    refine R_iald C hd y8 h dX9_field_62 (fun x9 h => ?_)
    exact R_tiret C hr hd h (by decide) (by decide) dX9_field_63
  rw [if_neg c6] at h
  by_cases c10 : a2 = 2
  · rw [if_pos c10] at h
    refine lv_tableIn (tgt := 64) hx hb dX9_field_6 (by rw [c10]; decide) (by rw [c10]; decide) (by rw [c10] <;> rfl) (by decide) ?_
    refine lv_aload_n hx hb dX9_field_64 rfl (lv_at hl 0 rfl) ?_
    refine gX9_35 C hd (rfl : kd 0 = 9) (q := 36) rfl dX9_field_65 (fun y11 => ?_)
    refine gX9_111 C hd y11 (q := 37) rfl dX9_field_68 (fun y12 => ?_)
    refine lv_bipush (v := 98) hx hb dX9_field_71 (by decide) ?_
    refine lv_iload_n hx hb dX9_field_73 rfl (lv_at hl 1 rfl) ?_
    refine lv_iadd hx hb dX9_field_74 ?_
    refine R_iald C hd y12 h dX9_field_75 (fun x13 h => ?_)
    exact R_tiret C hr hd h (by decide) (by decide) dX9_field_76
  rw [if_neg c10] at h
  by_cases c14 : a2 = 3
  · rw [if_pos c14] at h
    refine lv_tableIn (tgt := 77) hx hb dX9_field_6 (by rw [c14]; decide) (by rw [c14]; decide) (by rw [c14] <;> rfl) (by decide) ?_
    refine lv_aload_n hx hb dX9_field_77 rfl (lv_at hl 0 rfl) ?_
    refine lv_iload_n hx hb dX9_field_78 rfl (lv_at hl 1 rfl) ?_
    obtain ⟨x15, S1, hc, h⟩ := bd_some h
    refine R_cVi C hd (ccX9_whoIsIn l G  hc) kX9_138 rfl (by decide) (rfl : kd 0 = 9) hl.1 ⟨by decide, by decide⟩ rfl rfl (Nat.le_of_ble_eq_true rfl) dX9_field_79 ⟨by decide, by decide⟩ (fun H locs hd => ?_)
    generalize S1 = S at h hd
    exact R_tiret C hr hd h (by decide) (by decide) dX9_field_82
  rw [if_neg c14] at h
  by_cases c16 : a2 = 4
  · rw [if_pos c16] at h
    refine lv_tableIn (tgt := 83) hx hb dX9_field_6 (by rw [c16]; decide) (by rw [c16]; decide) (by rw [c16] <;> rfl) (by decide) ?_
    refine lv_aload_n hx hb dX9_field_83 rfl (lv_at hl 0 rfl) ?_
    refine gX9_63 C hd (rfl : kd 0 = 9) (q := 140) rfl dX9_field_84 (fun y17 => ?_)
    refine lv_aload_n hx hb dX9_field_87 rfl (lv_at hl 0 rfl) ?_
    refine gX9_16 C hd (rfl : kd 0 = 9) h dX9_field_88 (fun q18 kq18 h => ?_)
    refine lv_iload_n hx hb dX9_field_91 rfl (lv_at hl 1 rfl) ?_
    obtain ⟨x19, S1, hc, h⟩ := bd_some h
    refine R_cVi C hd (ccX5_thirds l G kq18 hc) kX9_142 rfl (by decide) y17 hl.1 ⟨by decide, by decide⟩ rfl rfl (Nat.le_of_ble_eq_true rfl) dX9_field_92 ⟨by decide, by decide⟩ (fun H locs hd => ?_)
    generalize S1 = S at h hd
    exact R_tiret C hr hd h (by decide) (by decide) dX9_field_95
  rw [if_neg c16] at h
  by_cases c20 : a2 = 5
  · rw [if_pos c20] at h
    refine lv_tableIn (tgt := 96) hx hb dX9_field_6 (by rw [c20]; decide) (by rw [c20]; decide) (by rw [c20] <;> rfl) (by decide) ?_
    refine lv_aload_n hx hb dX9_field_96 rfl (lv_at hl 0 rfl) ?_
    refine gX9_16 C hd (rfl : kd 0 = 9) h dX9_field_97 (fun q21 kq21 h => ?_)
    refine gX9_146 C hd kq21 (q := sr q21 6) rfl dX9_field_100 (fun y22 => ?_)
    refine lv_iload_n hx hb dX9_field_103 rfl (lv_at hl 1 rfl) ?_
    refine R_iald C hd y22 h dX9_field_104 (fun x23 h => ?_)
    exact R_tiret C hr hd h (by decide) (by decide) dX9_field_105
  rw [if_neg c20] at h
  refine R_tab (tgt := 106) C dX9_field_6 (by decide) [0, 1, 2, 3, 4, 5] (by decide) ?_ ?_
  · intro z hz; simp only [List.mem_cons, List.not_mem_nil, or_false] at hz; rcases hz with rfl | rfl | rfl | rfl | rfl | rfl <;> assumption
  exact R_throw C hd h ht hst hl.1 ktX9_1_128 (List.mem_of_getElem? (i := 22) rfl) (Nat.le_of_ble_eq_true rfl) (Nat.le_of_ble_eq_true rfl) (Nat.le_of_ble_eq_true rfl) (Nat.le_of_ble_eq_true rfl) (Nat.le_of_ble_eq_true rfl) (Nat.le_of_ble_eq_true rfl) dX9_field_106 dX9_field_109 dX9_field_110 dX9_field_112 dX9_field_115
set_option maxRecDepth 20000 in
theorem ccX9_field (l : Launch) (G : Gt) (hst : l.stackTraces = false) {a1 : Int32} {a2 : Int32} {S : St} {res : TR}  (h : fX9_field a1 a2 S = some res) : vx_Met l yX9_field (wm yX9_field cX9_field 3 (some .int)) (rmL 7 2 12) (PcW G S [.ref (gR G 0), .int a1, .int a2]) (QTI G res) (XT G res) 2 12 (Ab G) := by
  refine vx_ofW (cc := cX9_field) (maxL := 3) (ret := (some .int)) (by decide) rfl ?_
  intro p e s m args below meth c s₁ B hml ht hv
  obtain ⟨rfl, hK, hP⟩ := hv
  have C : Cx p s m _ meth c cX9_field 3 RX9 G := ⟨⟨B.exec, B.bytes, hml, findClass_of_methodNamed B.named, fun w hw => atoms_spec (ws := wm yX9_field cX9_field 3 (some .int)) B.pre w (List.mem_cons_of_mem _ hw)⟩, B.notSynchronized, hK⟩
  have hl := lv_entry ([.ref (gR G 0), .int a1, .int a2]) (n := 3) (Nat.le_of_ble_eq_true rfl)
  rw [lg_entry_eq]
  generalize (lg_sl ([.ref (gR G 0), .int a1, .int a2]) ++ List.replicate (3 - (lg_sl ([.ref (gR G 0), .int a1, .int a2])).length) Slot.unset).toArray = ls at hl ⊢
  exact sfX9_field C B.returns ht hst  ⟨hP, va_S.rf⟩ hl h
def fX9_note (a1 : Int32) (a2 : Int32) (S : St) : Option TR :=
  bt (fX9_needField a1 S) fun x1 S => (if a2 < 0 then trx 1 S else gm S 0 3 8 fun q3 => rd S (sr q3 4) a1 fun x5 => (if a2 < x5 then gm S 0 3 8 fun q7 => rd S (sr q7 5) ((a1 * 6) + a2) fun x9 => tri x9 S else trx 1 S))
set_option maxHeartbeats 4000000 in
set_option maxRecDepth 20000 in
theorem sfX9_note (C : Cx p s m args meth c cX9_note 3 RX9 G) (hr : meth.sig.returnType = some .int) (ht : ∀ x ∈ c.exceptionTable.toList, False) (hst : l.stackTraces = false) {a1 : Int32} {a2 : Int32} {S : St} {res : TR} {H : Heap} {locs : List Loc} {ls : Array Slot}  (hd : Dy G S s H locs) (hl : lv_has ls 3 [(0, .ref (gR G 0)), (1, .int a1), (2, .int a2)]) (h : fX9_note a1 a2 S = some res) : W p l e (rmL 7 2 12) s m args below meth c H locs 0 0 (vx_MQ below (QTI G res) (XT G res) args s 2 12 (Ab G)) (F0 m 0 ls []) := by
  unfold fX9_note at h
  have hx := C.1.1
  have hb := C.1.2.1
  refine lv_aload_n hx hb dX9_note_0 rfl (lv_at hl 0 rfl) ?_
  refine lv_iload_n hx hb dX9_note_1 rfl (lv_at hl 1 rfl) ?_
  refine R_tVv C hd ht hst h (fun r0 hc => ccX9_needField l G hst  hc) kX9_129 rfl (by decide) (rfl : kd 0 = 9) hl.1 ⟨by decide, by decide⟩ rfl rfl (Nat.le_of_ble_eq_true rfl) dX9_note_2 ⟨by decide, by decide⟩ (by decide) (by decide) (fun x1 S H locs hd h => ?_)
  refine lv_iload_n hx hb dX9_note_5 rfl (lv_at hl 2 rfl) ?_
  refine lv_if_lt (tgt := 22) hx hb dX9_note_6 (by decide) (fun c2 => ?_) (fun c2 => ?_)
  · rw [if_pos c2] at h
    exact R_throw C hd h ht hst hl.1 ktX9_1_128 (List.mem_of_getElem? (i := 23) rfl) (Nat.le_of_ble_eq_true rfl) (Nat.le_of_ble_eq_true rfl) (Nat.le_of_ble_eq_true rfl) (Nat.le_of_ble_eq_true rfl) (Nat.le_of_ble_eq_true rfl) (Nat.le_of_ble_eq_true rfl) dX9_note_22 dX9_note_25 dX9_note_26 dX9_note_28 dX9_note_31
  · rw [if_neg c2] at h
    refine lv_iload_n hx hb dX9_note_9 rfl (lv_at hl 2 rfl) ?_
    refine lv_aload_n hx hb dX9_note_10 rfl (lv_at hl 0 rfl) ?_
    refine gX9_16 C hd (rfl : kd 0 = 9) h dX9_note_11 (fun q3 kq3 h => ?_)
    refine gX9_135 C hd kq3 (q := sr q3 4) rfl dX9_note_14 (fun y4 => ?_)
    refine lv_iload_n hx hb dX9_note_17 rfl (lv_at hl 1 rfl) ?_
    refine R_iald C hd y4 h dX9_note_18 (fun x5 h => ?_)
    refine lv_icmp_lt (tgt := 32) hx hb dX9_note_19 (by decide) (fun c6 => ?_) (fun c6 => ?_)
    · rw [if_pos c6] at h
      refine lv_aload_n hx hb dX9_note_32 rfl (lv_at hl 0 rfl) ?_
      refine gX9_16 C hd (rfl : kd 0 = 9) h dX9_note_33 (fun q7 kq7 h => ?_)
      refine gX9_157 C hd kq7 (q := sr q7 5) rfl dX9_note_36 (fun y8 => ?_)
      refine lv_iload_n hx hb dX9_note_39 rfl (lv_at hl 1 rfl) ?_
      refine lv_bipush (v := 6) hx hb dX9_note_40 (by decide) ?_
      refine lv_imul hx hb dX9_note_42 ?_
      refine lv_iload_n hx hb dX9_note_43 rfl (lv_at hl 2 rfl) ?_
      refine lv_iadd hx hb dX9_note_44 ?_
      refine R_iald C hd y8 h dX9_note_45 (fun x9 h => ?_)
      exact R_tiret C hr hd h (by decide) (by decide) dX9_note_46
    · rw [if_neg c6] at h
      exact R_throw C hd h ht hst hl.1 ktX9_1_128 (List.mem_of_getElem? (i := 23) rfl) (Nat.le_of_ble_eq_true rfl) (Nat.le_of_ble_eq_true rfl) (Nat.le_of_ble_eq_true rfl) (Nat.le_of_ble_eq_true rfl) (Nat.le_of_ble_eq_true rfl) (Nat.le_of_ble_eq_true rfl) dX9_note_22 dX9_note_25 dX9_note_26 dX9_note_28 dX9_note_31
set_option maxRecDepth 20000 in
theorem ccX9_note (l : Launch) (G : Gt) (hst : l.stackTraces = false) {a1 : Int32} {a2 : Int32} {S : St} {res : TR}  (h : fX9_note a1 a2 S = some res) : vx_Met l yX9_note (wm yX9_note cX9_note 3 (some .int)) (rmL 7 2 12) (PcW G S [.ref (gR G 0), .int a1, .int a2]) (QTI G res) (XT G res) 2 12 (Ab G) := by
  refine vx_ofW (cc := cX9_note) (maxL := 3) (ret := (some .int)) (by decide) rfl ?_
  intro p e s m args below meth c s₁ B hml ht hv
  obtain ⟨rfl, hK, hP⟩ := hv
  have C : Cx p s m _ meth c cX9_note 3 RX9 G := ⟨⟨B.exec, B.bytes, hml, findClass_of_methodNamed B.named, fun w hw => atoms_spec (ws := wm yX9_note cX9_note 3 (some .int)) B.pre w (List.mem_cons_of_mem _ hw)⟩, B.notSynchronized, hK⟩
  have hl := lv_entry ([.ref (gR G 0), .int a1, .int a2]) (n := 3) (Nat.le_of_ble_eq_true rfl)
  rw [lg_entry_eq]
  generalize (lg_sl ([.ref (gR G 0), .int a1, .int a2]) ++ List.replicate (3 - (lg_sl ([.ref (gR G 0), .int a1, .int a2])).length) Slot.unset).toArray = ls at hl ⊢
  exact sfX9_note C B.returns ht hst  ⟨hP, va_S.rf⟩ hl h
def fX9_needSinger (a1 : Int32) (S : St) : Option TR :=
  (if a1 < 0 then trx 1 S else gm S 0 3 8 fun q2 => (if a1 < (S q2 2) then tri 0 S else trx 1 S))
set_option maxHeartbeats 4000000 in
set_option maxRecDepth 20000 in
theorem sfX9_needSinger (C : Cx p s m args meth c cX9_needSinger 2 RX9 G) (hr : meth.sig.returnType = none) (ht : ∀ x ∈ c.exceptionTable.toList, False) (hst : l.stackTraces = false) {a1 : Int32} {S : St} {res : TR} {H : Heap} {locs : List Loc} {ls : Array Slot}  (hd : Dy G S s H locs) (hl : lv_has ls 2 [(0, .ref (gR G 0)), (1, .int a1)]) (h : fX9_needSinger a1 S = some res) : W p l e (rmL 6 1 6) s m args below meth c H locs 0 0 (vx_MQ below (QTV G res) (XT G res) args s 1 6 (Ab G)) (F0 m 0 ls []) := by
  unfold fX9_needSinger at h
  have hx := C.1.1
  have hb := C.1.2.1
  refine lv_iload_n hx hb dX9_needSinger_0 rfl (lv_at hl 1 rfl) ?_
  refine lv_if_lt (tgt := 15) hx hb dX9_needSinger_1 (by decide) (fun c1 => ?_) (fun c1 => ?_)
  · rw [if_pos c1] at h
    exact R_throwW C hd h ht hst hl.1 ktX9_1_128 (List.mem_of_getElem? (i := 24) rfl) (Nat.le_of_ble_eq_true rfl) (Nat.le_of_ble_eq_true rfl) (Nat.le_of_ble_eq_true rfl) (Nat.le_of_ble_eq_true rfl) (Nat.le_of_ble_eq_true rfl) (Nat.le_of_ble_eq_true rfl) dX9_needSinger_15 dX9_needSinger_18 dX9_needSinger_19 dX9_needSinger_22 dX9_needSinger_25
  · rw [if_neg c1] at h
    refine lv_iload_n hx hb dX9_needSinger_4 rfl (lv_at hl 1 rfl) ?_
    refine lv_aload_n hx hb dX9_needSinger_5 rfl (lv_at hl 0 rfl) ?_
    refine gX9_16 C hd (rfl : kd 0 = 9) h dX9_needSinger_6 (fun q2 kq2 h => ?_)
    refine gX9_108 C hd kq2 dX9_needSinger_9 ?_
    refine lv_icmp_lt (tgt := 26) hx hb dX9_needSinger_12 (by decide) (fun c3 => ?_) (fun c3 => ?_)
    · rw [if_pos c3] at h
      exact R_tvret C hr hd h (by decide) (by decide) dX9_needSinger_26
    · rw [if_neg c3] at h
      exact R_throwW C hd h ht hst hl.1 ktX9_1_128 (List.mem_of_getElem? (i := 24) rfl) (Nat.le_of_ble_eq_true rfl) (Nat.le_of_ble_eq_true rfl) (Nat.le_of_ble_eq_true rfl) (Nat.le_of_ble_eq_true rfl) (Nat.le_of_ble_eq_true rfl) (Nat.le_of_ble_eq_true rfl) dX9_needSinger_15 dX9_needSinger_18 dX9_needSinger_19 dX9_needSinger_22 dX9_needSinger_25
set_option maxRecDepth 20000 in
theorem ccX9_needSinger (l : Launch) (G : Gt) (hst : l.stackTraces = false) {a1 : Int32} {S : St} {res : TR}  (h : fX9_needSinger a1 S = some res) : vx_Met l yX9_needSinger (wm yX9_needSinger cX9_needSinger 2 (none)) (rmL 6 1 6) (PcW G S [.ref (gR G 0), .int a1]) (QTV G res) (XT G res) 1 6 (Ab G) := by
  refine vx_ofW (cc := cX9_needSinger) (maxL := 2) (ret := none) (by decide) rfl ?_
  intro p e s m args below meth c s₁ B hml ht hv
  obtain ⟨rfl, hK, hP⟩ := hv
  have C : Cx p s m _ meth c cX9_needSinger 2 RX9 G := ⟨⟨B.exec, B.bytes, hml, findClass_of_methodNamed B.named, fun w hw => atoms_spec (ws := wm yX9_needSinger cX9_needSinger 2 (none)) B.pre w (List.mem_cons_of_mem _ hw)⟩, B.notSynchronized, hK⟩
  have hl := lv_entry ([.ref (gR G 0), .int a1]) (n := 2) (Nat.le_of_ble_eq_true rfl)
  rw [lg_entry_eq]
  generalize (lg_sl ([.ref (gR G 0), .int a1]) ++ List.replicate (2 - (lg_sl ([.ref (gR G 0), .int a1])).length) Slot.unset).toArray = ls at hl ⊢
  exact sfX9_needSinger C B.returns ht hst  ⟨hP, va_S.rf⟩ hl h
def fX9_singer (a1 : Int32) (a2 : Int32) (S : St) : Option TR :=
  bt (fX9_needSinger a1 S) fun x1 S => (if a2 = 0 then gm S 0 3 8 fun q3 => rd S (sr q3 8) a1 fun x5 => tri x5 S else (if a2 = 1 then gm S 0 3 8 fun q7 => bd (fX8_placeOf q7 37 a1 S) fun x10 S => tri x10 S else (if a2 = 2 then rd S 37 (2 + a1) fun x14 => tri x14 S else (if a2 = 3 then rd S 37 (8 + a1) fun x18 => tri x18 S else (if a2 = 4 then gm S 0 3 8 fun q21 => bv (fX0_begin q21 37 S) fun S => bd (fX0_freeTunes a1 S) fun x25 S => tri x25 S else (if a2 = 5 then gm S 0 3 8 fun q28 => bv (fX0_begin q28 37 S) fun S => bd (fX0_tuneOf a1 S) fun x32 S => tri x32 S else trx 1 S))))))
set_option maxHeartbeats 4000000 in
set_option maxRecDepth 20000 in
theorem sfX9_singer (C : Cx p s m args meth c cX9_singer 3 RX9 G) (hr : meth.sig.returnType = some .int) (ht : ∀ x ∈ c.exceptionTable.toList, False) (hst : l.stackTraces = false) {a1 : Int32} {a2 : Int32} {S : St} {res : TR} {H : Heap} {locs : List Loc} {ls : Array Slot}  (hd : Dy G S s H locs) (hl : lv_has ls 3 [(0, .ref (gR G 0)), (1, .int a1), (2, .int a2)]) (h : fX9_singer a1 a2 S = some res) : W p l e (rmL 7 2 12) s m args below meth c H locs 0 0 (vx_MQ below (QTI G res) (XT G res) args s 2 12 (Ab G)) (F0 m 0 ls []) := by
  unfold fX9_singer at h
  have hx := C.1.1
  have hb := C.1.2.1
  refine lv_aload_n hx hb dX9_singer_0 rfl (lv_at hl 0 rfl) ?_
  refine lv_iload_n hx hb dX9_singer_1 rfl (lv_at hl 1 rfl) ?_
  refine R_tVv C hd ht hst h (fun r0 hc => ccX9_needSinger l G hst  hc) kX9_160 rfl (by decide) (rfl : kd 0 = 9) hl.1 ⟨by decide, by decide⟩ rfl rfl (Nat.le_of_ble_eq_true rfl) dX9_singer_2 ⟨by decide, by decide⟩ (by decide) (by decide) (fun x1 S H locs hd h => ?_)
  refine lv_iload_n hx hb dX9_singer_5 rfl (lv_at hl 2 rfl) ?_
  by_cases c2 : a2 = 0
  · rw [if_pos c2] at h
    refine lv_tableIn (tgt := 44) hx hb dX9_singer_6 (by rw [c2]; decide) (by rw [c2]; decide) (by rw [c2] <;> rfl) (by decide) ?_
    refine lv_aload_n hx hb dX9_singer_44 rfl (lv_at hl 0 rfl) ?_
    refine gX9_16 C hd (rfl : kd 0 = 9) h dX9_singer_45 (fun q3 kq3 h => ?_)
    refine gX9_163 C hd kq3 (q := sr q3 8) rfl dX9_singer_48 (fun y4 => ?_)
    refine lv_iload_n hx hb dX9_singer_51 rfl (lv_at hl 1 rfl) ?_
    refine R_iald C hd y4 h dX9_singer_52 (fun x5 h => ?_)
    exact R_tiret C hr hd h (by decide) (by decide) dX9_singer_53
  rw [if_neg c2] at h
  by_cases c6 : a2 = 1
  · rw [if_pos c6] at h
    refine lv_tableIn (tgt := 54) hx hb dX9_singer_6 (by rw [c6]; decide) (by rw [c6]; decide) (by rw [c6] <;> rfl) (by decide) ?_
    refine lv_aload_n hx hb dX9_singer_54 rfl (lv_at hl 0 rfl) ?_
    refine gX9_16 C hd (rfl : kd 0 = 9) h dX9_singer_55 (fun q7 kq7 h => ?_)
    refine lv_aload_n hx hb dX9_singer_58 rfl (lv_at hl 0 rfl) ?_
    refine gX9_35 C hd (rfl : kd 0 = 9) (q := 36) rfl dX9_singer_59 (fun y8 => ?_)
    refine gX9_111 C hd y8 (q := 37) rfl dX9_singer_62 (fun y9 => ?_)
    refine lv_iload_n hx hb dX9_singer_65 rfl (lv_at hl 1 rfl) ?_
    obtain ⟨x10, S1, hc, h⟩ := bd_some h
    refine R_cVi C hd (ccX8_placeOf l G kq7 y9 hc) kX9_151 rfl (by decide) kq7 hl.1 ⟨by decide, by decide⟩ rfl rfl (Nat.le_of_ble_eq_true rfl) dX9_singer_66 ⟨by decide, by decide⟩ (fun H locs hd => ?_)
    generalize S1 = S at h hd
    exact R_tiret C hr hd h (by decide) (by decide) dX9_singer_69
  rw [if_neg c6] at h
  by_cases c11 : a2 = 2
  · rw [if_pos c11] at h
    refine lv_tableIn (tgt := 70) hx hb dX9_singer_6 (by rw [c11]; decide) (by rw [c11]; decide) (by rw [c11] <;> rfl) (by decide) ?_
    refine lv_aload_n hx hb dX9_singer_70 rfl (lv_at hl 0 rfl) ?_
    refine gX9_35 C hd (rfl : kd 0 = 9) (q := 36) rfl dX9_singer_71 (fun y12 => ?_)
    refine gX9_111 C hd y12 (q := 37) rfl dX9_singer_74 (fun y13 => ?_)
    refine lv_iconst (v := 2) hx hb dX9_singer_77 (by decide) ?_
    refine lv_iload_n hx hb dX9_singer_78 rfl (lv_at hl 1 rfl) ?_
    refine lv_iadd hx hb dX9_singer_79 ?_
    refine R_iald C hd y13 h dX9_singer_80 (fun x14 h => ?_)
    exact R_tiret C hr hd h (by decide) (by decide) dX9_singer_81
  rw [if_neg c11] at h
  by_cases c15 : a2 = 3
  · rw [if_pos c15] at h
    refine lv_tableIn (tgt := 82) hx hb dX9_singer_6 (by rw [c15]; decide) (by rw [c15]; decide) (by rw [c15] <;> rfl) (by decide) ?_
    refine lv_aload_n hx hb dX9_singer_82 rfl (lv_at hl 0 rfl) ?_
    refine gX9_35 C hd (rfl : kd 0 = 9) (q := 36) rfl dX9_singer_83 (fun y16 => ?_)
    refine gX9_111 C hd y16 (q := 37) rfl dX9_singer_86 (fun y17 => ?_)
    refine lv_bipush (v := 8) hx hb dX9_singer_89 (by decide) ?_
    refine lv_iload_n hx hb dX9_singer_91 rfl (lv_at hl 1 rfl) ?_
    refine lv_iadd hx hb dX9_singer_92 ?_
    refine R_iald C hd y17 h dX9_singer_93 (fun x18 h => ?_)
    exact R_tiret C hr hd h (by decide) (by decide) dX9_singer_94
  rw [if_neg c15] at h
  by_cases c19 : a2 = 4
  · rw [if_pos c19] at h
    refine lv_tableIn (tgt := 95) hx hb dX9_singer_6 (by rw [c19]; decide) (by rw [c19]; decide) (by rw [c19] <;> rfl) (by decide) ?_
    refine lv_aload_n hx hb dX9_singer_95 rfl (lv_at hl 0 rfl) ?_
    refine gX9_47 C hd (rfl : kd 0 = 9) (q := 130) rfl dX9_singer_96 (fun y20 => ?_)
    refine lv_aload_n hx hb dX9_singer_99 rfl (lv_at hl 0 rfl) ?_
    refine gX9_16 C hd (rfl : kd 0 = 9) h dX9_singer_100 (fun q21 kq21 h => ?_)
    refine lv_aload_n hx hb dX9_singer_103 rfl (lv_at hl 0 rfl) ?_
    refine gX9_35 C hd (rfl : kd 0 = 9) (q := 36) rfl dX9_singer_104 (fun y22 => ?_)
    refine gX9_111 C hd y22 (q := 37) rfl dX9_singer_107 (fun y23 => ?_)
    obtain ⟨S1, hc, h⟩ := bv_some h
    refine R_cVv C hd (ccX0_begin l G kq21 y23 hc) kX9_166 rfl (by decide) y20 hl.1 ⟨by decide, by decide⟩ rfl rfl (Nat.le_of_ble_eq_true rfl) dX9_singer_110 ⟨by decide, by decide⟩ (fun H locs hd => ?_)
    generalize S1 = S at h hd
    refine lv_aload_n hx hb dX9_singer_113 rfl (lv_at hl 0 rfl) ?_
    refine gX9_47 C hd (rfl : kd 0 = 9) (q := 130) rfl dX9_singer_114 (fun y24 => ?_)
    refine lv_iload_n hx hb dX9_singer_117 rfl (lv_at hl 1 rfl) ?_
    obtain ⟨x25, S1, hc, h⟩ := bd_some h
    refine R_cVi C hd (ccX0_freeTunes l G  hc) kX9_170 rfl (by decide) y24 hl.1 ⟨by decide, by decide⟩ rfl rfl (Nat.le_of_ble_eq_true rfl) dX9_singer_118 ⟨by decide, by decide⟩ (fun H locs hd => ?_)
    generalize S1 = S at h hd
    exact R_tiret C hr hd h (by decide) (by decide) dX9_singer_121
  rw [if_neg c19] at h
  by_cases c26 : a2 = 5
  · rw [if_pos c26] at h
    refine lv_tableIn (tgt := 122) hx hb dX9_singer_6 (by rw [c26]; decide) (by rw [c26]; decide) (by rw [c26] <;> rfl) (by decide) ?_
    refine lv_aload_n hx hb dX9_singer_122 rfl (lv_at hl 0 rfl) ?_
    refine gX9_47 C hd (rfl : kd 0 = 9) (q := 130) rfl dX9_singer_123 (fun y27 => ?_)
    refine lv_aload_n hx hb dX9_singer_126 rfl (lv_at hl 0 rfl) ?_
    refine gX9_16 C hd (rfl : kd 0 = 9) h dX9_singer_127 (fun q28 kq28 h => ?_)
    refine lv_aload_n hx hb dX9_singer_130 rfl (lv_at hl 0 rfl) ?_
    refine gX9_35 C hd (rfl : kd 0 = 9) (q := 36) rfl dX9_singer_131 (fun y29 => ?_)
    refine gX9_111 C hd y29 (q := 37) rfl dX9_singer_134 (fun y30 => ?_)
    obtain ⟨S1, hc, h⟩ := bv_some h
    refine R_cVv C hd (ccX0_begin l G kq28 y30 hc) kX9_166 rfl (by decide) y27 hl.1 ⟨by decide, by decide⟩ rfl rfl (Nat.le_of_ble_eq_true rfl) dX9_singer_137 ⟨by decide, by decide⟩ (fun H locs hd => ?_)
    generalize S1 = S at h hd
    refine lv_aload_n hx hb dX9_singer_140 rfl (lv_at hl 0 rfl) ?_
    refine gX9_47 C hd (rfl : kd 0 = 9) (q := 130) rfl dX9_singer_141 (fun y31 => ?_)
    refine lv_iload_n hx hb dX9_singer_144 rfl (lv_at hl 1 rfl) ?_
    obtain ⟨x32, S1, hc, h⟩ := bd_some h
    refine R_cVi C hd (ccX0_tuneOf l G  hc) kX9_173 rfl (by decide) y31 hl.1 ⟨by decide, by decide⟩ rfl rfl (Nat.le_of_ble_eq_true rfl) dX9_singer_145 ⟨by decide, by decide⟩ (fun H locs hd => ?_)
    generalize S1 = S at h hd
    exact R_tiret C hr hd h (by decide) (by decide) dX9_singer_148
  rw [if_neg c26] at h
  refine R_tab (tgt := 149) C dX9_singer_6 (by decide) [0, 1, 2, 3, 4, 5] (by decide) ?_ ?_
  · intro z hz; simp only [List.mem_cons, List.not_mem_nil, or_false] at hz; rcases hz with rfl | rfl | rfl | rfl | rfl | rfl <;> assumption
  exact R_throw C hd h ht hst hl.1 ktX9_1_128 (List.mem_of_getElem? (i := 25) rfl) (Nat.le_of_ble_eq_true rfl) (Nat.le_of_ble_eq_true rfl) (Nat.le_of_ble_eq_true rfl) (Nat.le_of_ble_eq_true rfl) (Nat.le_of_ble_eq_true rfl) (Nat.le_of_ble_eq_true rfl) dX9_singer_149 dX9_singer_152 dX9_singer_153 dX9_singer_155 dX9_singer_158
set_option maxRecDepth 20000 in
theorem ccX9_singer (l : Launch) (G : Gt) (hst : l.stackTraces = false) {a1 : Int32} {a2 : Int32} {S : St} {res : TR}  (h : fX9_singer a1 a2 S = some res) : vx_Met l yX9_singer (wm yX9_singer cX9_singer 3 (some .int)) (rmL 7 2 12) (PcW G S [.ref (gR G 0), .int a1, .int a2]) (QTI G res) (XT G res) 2 12 (Ab G) := by
  refine vx_ofW (cc := cX9_singer) (maxL := 3) (ret := (some .int)) (by decide) rfl ?_
  intro p e s m args below meth c s₁ B hml ht hv
  obtain ⟨rfl, hK, hP⟩ := hv
  have C : Cx p s m _ meth c cX9_singer 3 RX9 G := ⟨⟨B.exec, B.bytes, hml, findClass_of_methodNamed B.named, fun w hw => atoms_spec (ws := wm yX9_singer cX9_singer 3 (some .int)) B.pre w (List.mem_cons_of_mem _ hw)⟩, B.notSynchronized, hK⟩
  have hl := lv_entry ([.ref (gR G 0), .int a1, .int a2]) (n := 3) (Nat.le_of_ble_eq_true rfl)
  rw [lg_entry_eq]
  generalize (lg_sl ([.ref (gR G 0), .int a1, .int a2]) ++ List.replicate (3 - (lg_sl ([.ref (gR G 0), .int a1, .int a2])).length) Slot.unset).toArray = ls at hl ⊢
  exact sfX9_singer C B.returns ht hst  ⟨hP, va_S.rf⟩ hl h
def fX9_way (a1 : Int32) (a2 : Int32) (S : St) : Option TR :=
  bt (fX9_needSinger a1 S) fun x1 S => (if a2 < 0 then trx 1 S else gm S 0 3 8 fun q3 => rd S (sr q3 8) a1 fun x5 => (if a2 < x5 then rd S 37 ((62 + (a1 * 6)) + a2) fun x9 => tri x9 S else trx 1 S))
set_option maxHeartbeats 4000000 in
set_option maxRecDepth 20000 in
theorem sfX9_way (C : Cx p s m args meth c cX9_way 3 RX9 G) (hr : meth.sig.returnType = some .int) (ht : ∀ x ∈ c.exceptionTable.toList, False) (hst : l.stackTraces = false) {a1 : Int32} {a2 : Int32} {S : St} {res : TR} {H : Heap} {locs : List Loc} {ls : Array Slot}  (hd : Dy G S s H locs) (hl : lv_has ls 3 [(0, .ref (gR G 0)), (1, .int a1), (2, .int a2)]) (h : fX9_way a1 a2 S = some res) : W p l e (rmL 7 2 12) s m args below meth c H locs 0 0 (vx_MQ below (QTI G res) (XT G res) args s 2 12 (Ab G)) (F0 m 0 ls []) := by
  unfold fX9_way at h
  have hx := C.1.1
  have hb := C.1.2.1
  refine lv_aload_n hx hb dX9_way_0 rfl (lv_at hl 0 rfl) ?_
  refine lv_iload_n hx hb dX9_way_1 rfl (lv_at hl 1 rfl) ?_
  refine R_tVv C hd ht hst h (fun r0 hc => ccX9_needSinger l G hst  hc) kX9_160 rfl (by decide) (rfl : kd 0 = 9) hl.1 ⟨by decide, by decide⟩ rfl rfl (Nat.le_of_ble_eq_true rfl) dX9_way_2 ⟨by decide, by decide⟩ (by decide) (by decide) (fun x1 S H locs hd h => ?_)
  refine lv_iload_n hx hb dX9_way_5 rfl (lv_at hl 2 rfl) ?_
  refine lv_if_lt (tgt := 22) hx hb dX9_way_6 (by decide) (fun c2 => ?_) (fun c2 => ?_)
  · rw [if_pos c2] at h
    exact R_throw C hd h ht hst hl.1 ktX9_1_128 (List.mem_of_getElem? (i := 26) rfl) (Nat.le_of_ble_eq_true rfl) (Nat.le_of_ble_eq_true rfl) (Nat.le_of_ble_eq_true rfl) (Nat.le_of_ble_eq_true rfl) (Nat.le_of_ble_eq_true rfl) (Nat.le_of_ble_eq_true rfl) dX9_way_22 dX9_way_25 dX9_way_26 dX9_way_28 dX9_way_31
  · rw [if_neg c2] at h
    refine lv_iload_n hx hb dX9_way_9 rfl (lv_at hl 2 rfl) ?_
    refine lv_aload_n hx hb dX9_way_10 rfl (lv_at hl 0 rfl) ?_
    refine gX9_16 C hd (rfl : kd 0 = 9) h dX9_way_11 (fun q3 kq3 h => ?_)
    refine gX9_163 C hd kq3 (q := sr q3 8) rfl dX9_way_14 (fun y4 => ?_)
    refine lv_iload_n hx hb dX9_way_17 rfl (lv_at hl 1 rfl) ?_
    refine R_iald C hd y4 h dX9_way_18 (fun x5 h => ?_)
    refine lv_icmp_lt (tgt := 32) hx hb dX9_way_19 (by decide) (fun c6 => ?_) (fun c6 => ?_)
    · rw [if_pos c6] at h
      refine lv_aload_n hx hb dX9_way_32 rfl (lv_at hl 0 rfl) ?_
      refine gX9_35 C hd (rfl : kd 0 = 9) (q := 36) rfl dX9_way_33 (fun y7 => ?_)
      refine gX9_111 C hd y7 (q := 37) rfl dX9_way_36 (fun y8 => ?_)
      refine lv_bipush (v := 62) hx hb dX9_way_39 (by decide) ?_
      refine lv_iload_n hx hb dX9_way_41 rfl (lv_at hl 1 rfl) ?_
      refine lv_bipush (v := 6) hx hb dX9_way_42 (by decide) ?_
      refine lv_imul hx hb dX9_way_44 ?_
      refine lv_iadd hx hb dX9_way_45 ?_
      refine lv_iload_n hx hb dX9_way_46 rfl (lv_at hl 2 rfl) ?_
      refine lv_iadd hx hb dX9_way_47 ?_
      refine R_iald C hd y8 h dX9_way_48 (fun x9 h => ?_)
      exact R_tiret C hr hd h (by decide) (by decide) dX9_way_49
    · rw [if_neg c6] at h
      exact R_throw C hd h ht hst hl.1 ktX9_1_128 (List.mem_of_getElem? (i := 26) rfl) (Nat.le_of_ble_eq_true rfl) (Nat.le_of_ble_eq_true rfl) (Nat.le_of_ble_eq_true rfl) (Nat.le_of_ble_eq_true rfl) (Nat.le_of_ble_eq_true rfl) (Nat.le_of_ble_eq_true rfl) dX9_way_22 dX9_way_25 dX9_way_26 dX9_way_28 dX9_way_31
set_option maxRecDepth 20000 in
theorem ccX9_way (l : Launch) (G : Gt) (hst : l.stackTraces = false) {a1 : Int32} {a2 : Int32} {S : St} {res : TR}  (h : fX9_way a1 a2 S = some res) : vx_Met l yX9_way (wm yX9_way cX9_way 3 (some .int)) (rmL 7 2 12) (PcW G S [.ref (gR G 0), .int a1, .int a2]) (QTI G res) (XT G res) 2 12 (Ab G) := by
  refine vx_ofW (cc := cX9_way) (maxL := 3) (ret := (some .int)) (by decide) rfl ?_
  intro p e s m args below meth c s₁ B hml ht hv
  obtain ⟨rfl, hK, hP⟩ := hv
  have C : Cx p s m _ meth c cX9_way 3 RX9 G := ⟨⟨B.exec, B.bytes, hml, findClass_of_methodNamed B.named, fun w hw => atoms_spec (ws := wm yX9_way cX9_way 3 (some .int)) B.pre w (List.mem_cons_of_mem _ hw)⟩, B.notSynchronized, hK⟩
  have hl := lv_entry ([.ref (gR G 0), .int a1, .int a2]) (n := 3) (Nat.le_of_ble_eq_true rfl)
  rw [lg_entry_eq]
  generalize (lg_sl ([.ref (gR G 0), .int a1, .int a2]) ++ List.replicate (3 - (lg_sl ([.ref (gR G 0), .int a1, .int a2])).length) Slot.unset).toArray = ls at hl ⊢
  exact sfX9_way C B.returns ht hst  ⟨hP, va_S.rf⟩ hl h
def fX9_earth (a1 : Int32) (a2 : Int32) (S : St) : Option TR :=
  bt (fX9_needSinger a1 S) fun x1 S => bt (fX9_needField a2 S) fun x2 S => rd S 37 ((14 + (a1 * 8)) + a2) fun x5 => tri x5 S
set_option maxHeartbeats 4000000 in
set_option maxRecDepth 20000 in
theorem sfX9_earth (C : Cx p s m args meth c cX9_earth 3 RX9 G) (hr : meth.sig.returnType = some .int) (ht : ∀ x ∈ c.exceptionTable.toList, False) (hst : l.stackTraces = false) {a1 : Int32} {a2 : Int32} {S : St} {res : TR} {H : Heap} {locs : List Loc} {ls : Array Slot}  (hd : Dy G S s H locs) (hl : lv_has ls 3 [(0, .ref (gR G 0)), (1, .int a1), (2, .int a2)]) (h : fX9_earth a1 a2 S = some res) : W p l e (rmL 7 2 12) s m args below meth c H locs 0 0 (vx_MQ below (QTI G res) (XT G res) args s 2 12 (Ab G)) (F0 m 0 ls []) := by
  unfold fX9_earth at h
  have hx := C.1.1
  have hb := C.1.2.1
  refine lv_aload_n hx hb dX9_earth_0 rfl (lv_at hl 0 rfl) ?_
  refine lv_iload_n hx hb dX9_earth_1 rfl (lv_at hl 1 rfl) ?_
  refine R_tVv C hd ht hst h (fun r0 hc => ccX9_needSinger l G hst  hc) kX9_160 rfl (by decide) (rfl : kd 0 = 9) hl.1 ⟨by decide, by decide⟩ rfl rfl (Nat.le_of_ble_eq_true rfl) dX9_earth_2 ⟨by decide, by decide⟩ (by decide) (by decide) (fun x1 S H locs hd h => ?_)
  refine lv_aload_n hx hb dX9_earth_5 rfl (lv_at hl 0 rfl) ?_
  refine lv_iload_n hx hb dX9_earth_6 rfl (lv_at hl 2 rfl) ?_
  refine R_tVv C hd ht hst h (fun r0 hc => ccX9_needField l G hst  hc) kX9_129 rfl (by decide) (rfl : kd 0 = 9) hl.1 ⟨by decide, by decide⟩ rfl rfl (Nat.le_of_ble_eq_true rfl) dX9_earth_7 ⟨by decide, by decide⟩ (by decide) (by decide) (fun x2 S H locs hd h => ?_)
  refine lv_aload_n hx hb dX9_earth_10 rfl (lv_at hl 0 rfl) ?_
  refine gX9_35 C hd (rfl : kd 0 = 9) (q := 36) rfl dX9_earth_11 (fun y3 => ?_)
  refine gX9_111 C hd y3 (q := 37) rfl dX9_earth_14 (fun y4 => ?_)
  refine lv_bipush (v := 14) hx hb dX9_earth_17 (by decide) ?_
  refine lv_iload_n hx hb dX9_earth_19 rfl (lv_at hl 1 rfl) ?_
  refine lv_bipush (v := 8) hx hb dX9_earth_20 (by decide) ?_
  refine lv_imul hx hb dX9_earth_22 ?_
  refine lv_iadd hx hb dX9_earth_23 ?_
  refine lv_iload_n hx hb dX9_earth_24 rfl (lv_at hl 2 rfl) ?_
  refine lv_iadd hx hb dX9_earth_25 ?_
  refine R_iald C hd y4 h dX9_earth_26 (fun x5 h => ?_)
  exact R_tiret C hr hd h (by decide) (by decide) dX9_earth_27
set_option maxRecDepth 20000 in
theorem ccX9_earth (l : Launch) (G : Gt) (hst : l.stackTraces = false) {a1 : Int32} {a2 : Int32} {S : St} {res : TR}  (h : fX9_earth a1 a2 S = some res) : vx_Met l yX9_earth (wm yX9_earth cX9_earth 3 (some .int)) (rmL 7 2 12) (PcW G S [.ref (gR G 0), .int a1, .int a2]) (QTI G res) (XT G res) 2 12 (Ab G) := by
  refine vx_ofW (cc := cX9_earth) (maxL := 3) (ret := (some .int)) (by decide) rfl ?_
  intro p e s m args below meth c s₁ B hml ht hv
  obtain ⟨rfl, hK, hP⟩ := hv
  have C : Cx p s m _ meth c cX9_earth 3 RX9 G := ⟨⟨B.exec, B.bytes, hml, findClass_of_methodNamed B.named, fun w hw => atoms_spec (ws := wm yX9_earth cX9_earth 3 (some .int)) B.pre w (List.mem_cons_of_mem _ hw)⟩, B.notSynchronized, hK⟩
  have hl := lv_entry ([.ref (gR G 0), .int a1, .int a2]) (n := 3) (Nat.le_of_ble_eq_true rfl)
  rw [lg_entry_eq]
  generalize (lg_sl ([.ref (gR G 0), .int a1, .int a2]) ++ List.replicate (3 - (lg_sl ([.ref (gR G 0), .int a1, .int a2])).length) Slot.unset).toArray = ls at hl ⊢
  exact sfX9_earth C B.returns ht hst  ⟨hP, va_S.rf⟩ hl h
def BX9_hours_28  (S : St) : Option (Int32 × St) :=
  bv (fX4_refuse 36 1 S) fun S => ri ((-1)) S
set_option maxHeartbeats 4000000 in
set_option maxRecDepth 20000 in
theorem sBX9_hours_28 (C : Cx p s m args meth c cX9_hours 2 RX9 G) (hr : meth.sig.returnType = some .int)  {S : St} {res : (Int32 × St)} {H : Heap} {locs : List Loc} {ls : Array Slot}  (hd : Dy G S s H locs) (hl : lv_has ls 2 [(0, .ref (gR G 0))]) (h : BX9_hours_28  S = some res) : W p l e (rmL 8 0 0) s m args below meth c H locs 0 0 (MQ below (QI G res.1 res.2) args s 0 0 (Ab G)) (F0 m 28 ls []) := by
  unfold BX9_hours_28 at h
  have hx := C.1.1
  have hb := C.1.2.1
  refine lv_aload_n hx hb dX9_hours_28 rfl (lv_at hl 0 rfl) ?_
  refine gX9_35 C hd (rfl : kd 0 = 9) (q := 36) rfl dX9_hours_29 (fun y1 => ?_)
  refine lv_iconst (v := 1) hx hb dX9_hours_32 (by decide) ?_
  obtain ⟨S1, hc, h⟩ := bv_some h
  refine R_cVv C hd (ccX4_refuse l G y1 hc) kX9_92 rfl (by decide) y1 hl.1 ⟨by decide, by decide⟩ rfl rfl (Nat.le_of_ble_eq_true rfl) dX9_hours_33 ⟨Nat.zero_le _, Nat.zero_le _⟩ (fun H locs hd => ?_)
  generalize S1 = S at h hd
  refine lv_iconst (v := -1) hx hb dX9_hours_36 (by decide) ?_
  exact R_iret C hr hd h dX9_hours_37
def fX9_hours (a1 : Int32) (S : St) : Option (Int32 × St) :=
  (if a1 < 1 then (BX9_hours_28  S) else (if 30 < a1 then (BX9_hours_28  S) else rd S 37 0 fun x5 => (if (x5 + a1) ≤ 9999 then bv (fX4_keepAct 36 S) fun S => gm S 0 3 8 fun q9 => bv (fX0_begin q9 37 S) fun S => bv (fX0_go a1 S) fun S => ac S 131 0 37 0 106 fun S => rd S 37 0 fun x19 => ri x19 S else (BX9_hours_28  S))))
set_option maxHeartbeats 4000000 in
set_option maxRecDepth 20000 in
theorem sfX9_hours (C : Cx p s m args meth c cX9_hours 2 RX9 G) (hr : meth.sig.returnType = some .int) {a1 : Int32} {S : St} {res : (Int32 × St)} {H : Heap} {locs : List Loc} {ls : Array Slot}  (hd : Dy G S s H locs) (hl : lv_has ls 2 [(0, .ref (gR G 0)), (1, .int a1)]) (h : fX9_hours a1 S = some res) : W p l e (rmL 8 0 0) s m args below meth c H locs 0 0 (MQ below (QI G res.1 res.2) args s 0 0 (Ab G)) (F0 m 0 ls []) := by
  unfold fX9_hours at h
  have hx := C.1.1
  have hb := C.1.2.1
  refine lv_iload_n hx hb dX9_hours_0 rfl (lv_at hl 1 rfl) ?_
  refine lv_iconst (v := 1) hx hb dX9_hours_1 (by decide) ?_
  refine lv_icmp_lt (tgt := 28) hx hb dX9_hours_2 (by decide) (fun c1 => ?_) (fun c1 => ?_)
  · rw [if_pos c1] at h
    exact sBX9_hours_28 C hr  hd (lv_sub hl [0] rfl) h
  · rw [if_neg c1] at h
    refine lv_iload_n hx hb dX9_hours_5 rfl (lv_at hl 1 rfl) ?_
    refine lv_bipush (v := 30) hx hb dX9_hours_6 (by decide) ?_
    refine lv_icmp_gt (tgt := 28) hx hb dX9_hours_8 (by decide) (fun c2 => ?_) (fun c2 => ?_)
    · rw [if_pos c2] at h
      exact sBX9_hours_28 C hr  hd (lv_sub hl [0] rfl) h
    · rw [if_neg c2] at h
      refine lv_aload_n hx hb dX9_hours_11 rfl (lv_at hl 0 rfl) ?_
      refine gX9_35 C hd (rfl : kd 0 = 9) (q := 36) rfl dX9_hours_12 (fun y3 => ?_)
      refine gX9_111 C hd y3 (q := 37) rfl dX9_hours_15 (fun y4 => ?_)
      refine lv_iconst (v := 0) hx hb dX9_hours_18 (by decide) ?_
      refine R_iald C hd y4 h dX9_hours_19 (fun x5 h => ?_)
      refine lv_iload_n hx hb dX9_hours_20 rfl (lv_at hl 1 rfl) ?_
      refine lv_iadd hx hb dX9_hours_21 ?_
      refine lv_sipush (v := 9999) hx hb dX9_hours_22 (by decide) ?_
      refine lv_icmp_le (tgt := 38) hx hb dX9_hours_25 (by decide) (fun c6 => ?_) (fun c6 => ?_)
      · rw [if_pos c6] at h
        refine lv_aload_n hx hb dX9_hours_38 rfl (lv_at hl 0 rfl) ?_
        refine gX9_35 C hd (rfl : kd 0 = 9) (q := 36) rfl dX9_hours_39 (fun y7 => ?_)
        obtain ⟨S1, hc, h⟩ := bv_some h
        refine R_cVv C hd (ccX4_keepAct l G y7 hc) kX9_180 rfl (by decide) y7 hl.1 ⟨by decide, by decide⟩ rfl rfl (Nat.le_of_ble_eq_true rfl) dX9_hours_42 ⟨Nat.zero_le _, Nat.zero_le _⟩ (fun H locs hd => ?_)
        generalize S1 = S at h hd
        refine lv_aload_n hx hb dX9_hours_45 rfl (lv_at hl 0 rfl) ?_
        refine gX9_47 C hd (rfl : kd 0 = 9) (q := 130) rfl dX9_hours_46 (fun y8 => ?_)
        refine lv_aload_n hx hb dX9_hours_49 rfl (lv_at hl 0 rfl) ?_
        refine gX9_16 C hd (rfl : kd 0 = 9) h dX9_hours_50 (fun q9 kq9 h => ?_)
        refine lv_aload_n hx hb dX9_hours_53 rfl (lv_at hl 0 rfl) ?_
        refine gX9_35 C hd (rfl : kd 0 = 9) (q := 36) rfl dX9_hours_54 (fun y10 => ?_)
        refine gX9_111 C hd y10 (q := 37) rfl dX9_hours_57 (fun y11 => ?_)
        obtain ⟨S1, hc, h⟩ := bv_some h
        refine R_cVv C hd (ccX0_begin l G kq9 y11 hc) kX9_166 rfl (by decide) y8 hl.1 ⟨by decide, by decide⟩ rfl rfl (Nat.le_of_ble_eq_true rfl) dX9_hours_60 ⟨Nat.zero_le _, Nat.zero_le _⟩ (fun H locs hd => ?_)
        generalize S1 = S at h hd
        refine lv_aload_n hx hb dX9_hours_63 rfl (lv_at hl 0 rfl) ?_
        refine gX9_47 C hd (rfl : kd 0 = 9) (q := 130) rfl dX9_hours_64 (fun y12 => ?_)
        refine lv_iload_n hx hb dX9_hours_67 rfl (lv_at hl 1 rfl) ?_
        obtain ⟨S1, hc, h⟩ := bv_some h
        refine R_cVv C hd (ccX0_go l G  hc) kX9_183 rfl (by decide) y12 hl.1 ⟨by decide, by decide⟩ rfl rfl (Nat.le_of_ble_eq_true rfl) dX9_hours_68 ⟨Nat.zero_le _, Nat.zero_le _⟩ (fun H locs hd => ?_)
        generalize S1 = S at h hd
        refine lv_aload_n hx hb dX9_hours_71 rfl (lv_at hl 0 rfl) ?_
        refine gX9_47 C hd (rfl : kd 0 = 9) (q := 130) rfl dX9_hours_72 (fun y13 => ?_)
        refine gX9_186 C hd y13 (q := 131) rfl dX9_hours_75 (fun y14 => ?_)
        refine lv_iconst (v := 0) hx hb dX9_hours_78 (by decide) ?_
        refine lv_aload_n hx hb dX9_hours_79 rfl (lv_at hl 0 rfl) ?_
        refine gX9_35 C hd (rfl : kd 0 = 9) (q := 36) rfl dX9_hours_80 (fun y15 => ?_)
        refine gX9_111 C hd y15 (q := 37) rfl dX9_hours_83 (fun y16 => ?_)
        refine lv_iconst (v := 0) hx hb dX9_hours_86 (by decide) ?_
        refine lv_bipush (v := 106) hx hb dX9_hours_87 (by decide) ?_
        refine R_ac C hl.1 kaX9_187 hd y14 y16 h (Nat.le_of_ble_eq_true rfl) (Nat.le_of_ble_eq_true rfl) dX9_hours_89 (fun S H locs hd h => ?_)
        refine lv_aload_n hx hb dX9_hours_92 rfl (lv_at hl 0 rfl) ?_
        refine gX9_35 C hd (rfl : kd 0 = 9) (q := 36) rfl dX9_hours_93 (fun y17 => ?_)
        refine gX9_111 C hd y17 (q := 37) rfl dX9_hours_96 (fun y18 => ?_)
        refine lv_iconst (v := 0) hx hb dX9_hours_99 (by decide) ?_
        refine R_iald C hd y18 h dX9_hours_100 (fun x19 h => ?_)
        exact R_iret C hr hd h dX9_hours_101
      · rw [if_neg c6] at h
        exact sBX9_hours_28 C hr  hd (lv_sub hl [0] rfl) h
set_option maxRecDepth 20000 in
theorem ccX9_hours (l : Launch) (G : Gt) {a1 : Int32} {S : St} {res : (Int32 × St)}  (h : fX9_hours a1 S = some res) : Met l yX9_hours (wm yX9_hours cX9_hours 2 (some .int)) (rmL 8 0 0) (PcW G S [.ref (gR G 0), .int a1]) (QI G res.1 res.2) 0 0 (Ab G) := by
  refine Met.ofW (cc := cX9_hours) (maxL := 2) (ret := (some .int)) (by decide) rfl ?_
  intro p e s m args below meth c s₁ B hml hv
  obtain ⟨rfl, hK, hP⟩ := hv
  have C : Cx p s m _ meth c cX9_hours 2 RX9 G := ⟨⟨B.exec, B.bytes, hml, findClass_of_methodNamed B.named, fun w hw => atoms_spec (ws := wm yX9_hours cX9_hours 2 (some .int)) B.pre w (List.mem_cons_of_mem _ hw)⟩, B.notSynchronized, hK⟩
  have hl := lv_entry ([.ref (gR G 0), .int a1]) (n := 2) (Nat.le_of_ble_eq_true rfl)
  rw [lg_entry_eq]
  generalize (lg_sl ([.ref (gR G 0), .int a1]) ++ List.replicate (2 - (lg_sl ([.ref (gR G 0), .int a1])).length) Slot.unset).toArray = ls at hl ⊢
  exact sfX9_hours C B.returns  ⟨hP, va_S.rf⟩ hl h
def fX9_teach (a1 : Int32) (a2 : Int32) (S : St) : Option TR :=
  bt (fX9_needSinger a1 S) fun x1 S => bt (fX9_needField a2 S) fun x2 S => rd S 37 (2 + a1) fun x5 => (if ((x5 >>> (a2 &&& 31)) &&& 1) = 0 then bv (fX4_keepAct 36 S) fun S => vl (2 + a1) fun x10 => rd S 37 x10 fun x11 => wr S 37 x10 (x11 ||| ((1 : Int32) <<< (a2 &&& 31))) fun S => trz 1 S else bv (fX4_refuse 36 1 S) fun S => trz 0 S)
set_option maxHeartbeats 4000000 in
set_option maxRecDepth 20000 in
theorem sfX9_teach (C : Cx p s m args meth c cX9_teach 3 RX9 G) (hr : meth.sig.returnType = some .boolean) (ht : ∀ x ∈ c.exceptionTable.toList, False) (hst : l.stackTraces = false) {a1 : Int32} {a2 : Int32} {S : St} {res : TR} {H : Heap} {locs : List Loc} {ls : Array Slot}  (hd : Dy G S s H locs) (hl : lv_has ls 3 [(0, .ref (gR G 0)), (1, .int a1), (2, .int a2)]) (h : fX9_teach a1 a2 S = some res) : W p l e (rmL 7 2 12) s m args below meth c H locs 0 0 (vx_MQ below (QTI G res) (XT G res) args s 2 12 (Ab G)) (F0 m 0 ls []) := by
  unfold fX9_teach at h
  have hx := C.1.1
  have hb := C.1.2.1
  refine lv_aload_n hx hb dX9_teach_0 rfl (lv_at hl 0 rfl) ?_
  refine lv_iload_n hx hb dX9_teach_1 rfl (lv_at hl 1 rfl) ?_
  refine R_tVv C hd ht hst h (fun r0 hc => ccX9_needSinger l G hst  hc) kX9_160 rfl (by decide) (rfl : kd 0 = 9) hl.1 ⟨by decide, by decide⟩ rfl rfl (Nat.le_of_ble_eq_true rfl) dX9_teach_2 ⟨by decide, by decide⟩ (by decide) (by decide) (fun x1 S H locs hd h => ?_)
  refine lv_aload_n hx hb dX9_teach_5 rfl (lv_at hl 0 rfl) ?_
  refine lv_iload_n hx hb dX9_teach_6 rfl (lv_at hl 2 rfl) ?_
  refine R_tVv C hd ht hst h (fun r0 hc => ccX9_needField l G hst  hc) kX9_129 rfl (by decide) (rfl : kd 0 = 9) hl.1 ⟨by decide, by decide⟩ rfl rfl (Nat.le_of_ble_eq_true rfl) dX9_teach_7 ⟨by decide, by decide⟩ (by decide) (by decide) (fun x2 S H locs hd h => ?_)
  refine lv_aload_n hx hb dX9_teach_10 rfl (lv_at hl 0 rfl) ?_
  refine gX9_35 C hd (rfl : kd 0 = 9) (q := 36) rfl dX9_teach_11 (fun y3 => ?_)
  refine gX9_111 C hd y3 (q := 37) rfl dX9_teach_14 (fun y4 => ?_)
  refine lv_iconst (v := 2) hx hb dX9_teach_17 (by decide) ?_
  refine lv_iload_n hx hb dX9_teach_18 rfl (lv_at hl 1 rfl) ?_
  refine lv_iadd hx hb dX9_teach_19 ?_
  refine R_iald C hd y4 h dX9_teach_20 (fun x5 h => ?_)
  refine lv_iload_n hx hb dX9_teach_21 rfl (lv_at hl 2 rfl) ?_
  refine lv_ishr hx hb dX9_teach_22 ?_
  refine lv_iconst (v := 1) hx hb dX9_teach_23 (by decide) ?_
  refine lv_iand hx hb dX9_teach_24 ?_
  refine lv_if_eq (tgt := 38) hx hb dX9_teach_25 (by decide) (fun c6 => ?_) (fun c6 => ?_)
  · rw [if_pos c6] at h
    refine lv_aload_n hx hb dX9_teach_38 rfl (lv_at hl 0 rfl) ?_
    refine gX9_35 C hd (rfl : kd 0 = 9) (q := 36) rfl dX9_teach_39 (fun y7 => ?_)
    obtain ⟨S1, hc, h⟩ := bv_some h
    refine R_cVv C hd (ccX4_keepAct l G y7 hc) kX9_180 rfl (by decide) y7 hl.1 ⟨by decide, by decide⟩ rfl rfl (Nat.le_of_ble_eq_true rfl) dX9_teach_42 ⟨by decide, by decide⟩ (fun H locs hd => ?_)
    generalize S1 = S at h hd
    refine lv_aload_n hx hb dX9_teach_45 rfl (lv_at hl 0 rfl) ?_
    refine gX9_35 C hd (rfl : kd 0 = 9) (q := 36) rfl dX9_teach_46 (fun y8 => ?_)
    refine gX9_111 C hd y8 (q := 37) rfl dX9_teach_49 (fun y9 => ?_)
    refine lv_iconst (v := 2) hx hb dX9_teach_52 (by decide) ?_
    refine lv_iload_n hx hb dX9_teach_53 rfl (lv_at hl 1 rfl) ?_
    refine lv_iadd hx hb dX9_teach_54 ?_
    refine R_vl h (fun x10 h => ?_)
    refine lv_dup2_11 hx hb dX9_teach_55 rfl rfl ?_
    refine R_iald C hd y9 h dX9_teach_56 (fun x11 h => ?_)
    refine lv_iconst (v := 1) hx hb dX9_teach_57 (by decide) ?_
    refine lv_iload_n hx hb dX9_teach_58 rfl (lv_at hl 2 rfl) ?_
    refine lv_ishl hx hb dX9_teach_59 ?_
    refine lv_ior hx hb dX9_teach_60 ?_
    refine R_iast C hd y9 h dX9_teach_61 (fun S H locs hd h => ?_)
    refine lv_iconst (v := 1) hx hb dX9_teach_62 (by decide) ?_
    exact R_tzret C hr hd h (by decide) (by decide) dX9_teach_63
  · rw [if_neg c6] at h
    refine lv_aload_n hx hb dX9_teach_28 rfl (lv_at hl 0 rfl) ?_
    refine gX9_35 C hd (rfl : kd 0 = 9) (q := 36) rfl dX9_teach_29 (fun y12 => ?_)
    refine lv_iconst (v := 1) hx hb dX9_teach_32 (by decide) ?_
    obtain ⟨S1, hc, h⟩ := bv_some h
    refine R_cVv C hd (ccX4_refuse l G y12 hc) kX9_92 rfl (by decide) y12 hl.1 ⟨by decide, by decide⟩ rfl rfl (Nat.le_of_ble_eq_true rfl) dX9_teach_33 ⟨by decide, by decide⟩ (fun H locs hd => ?_)
    generalize S1 = S at h hd
    refine lv_iconst (v := 0) hx hb dX9_teach_36 (by decide) ?_
    exact R_tzret C hr hd h (by decide) (by decide) dX9_teach_37
set_option maxRecDepth 20000 in
theorem ccX9_teach (l : Launch) (G : Gt) (hst : l.stackTraces = false) {a1 : Int32} {a2 : Int32} {S : St} {res : TR}  (h : fX9_teach a1 a2 S = some res) : vx_Met l yX9_teach (wm yX9_teach cX9_teach 3 (some .boolean)) (rmL 7 2 12) (PcW G S [.ref (gR G 0), .int a1, .int a2]) (QTI G res) (XT G res) 2 12 (Ab G) := by
  refine vx_ofW (cc := cX9_teach) (maxL := 3) (ret := (some .boolean)) (by decide) rfl ?_
  intro p e s m args below meth c s₁ B hml ht hv
  obtain ⟨rfl, hK, hP⟩ := hv
  have C : Cx p s m _ meth c cX9_teach 3 RX9 G := ⟨⟨B.exec, B.bytes, hml, findClass_of_methodNamed B.named, fun w hw => atoms_spec (ws := wm yX9_teach cX9_teach 3 (some .boolean)) B.pre w (List.mem_cons_of_mem _ hw)⟩, B.notSynchronized, hK⟩
  have hl := lv_entry ([.ref (gR G 0), .int a1, .int a2]) (n := 3) (Nat.le_of_ble_eq_true rfl)
  rw [lg_entry_eq]
  generalize (lg_sl ([.ref (gR G 0), .int a1, .int a2]) ++ List.replicate (3 - (lg_sl ([.ref (gR G 0), .int a1, .int a2])).length) Slot.unset).toArray = ls at hl ⊢
  exact sfX9_teach C B.returns ht hst  ⟨hP, va_S.rf⟩ hl h
def BX9_load_21  (S : St) : Option TR :=
  bv (fX4_refuse 36 1 S) fun S => tri ((-1)) S
set_option maxHeartbeats 4000000 in
set_option maxRecDepth 20000 in
theorem sBX9_load_21 (C : Cx p s m args meth c cX9_load 5 RX9 G) (hr : meth.sig.returnType = some .int) (ht : ∀ x ∈ c.exceptionTable.toList, False) (hst : l.stackTraces = false)  {S : St} {res : TR} {H : Heap} {locs : List Loc} {ls : Array Slot}  (hd : Dy G S s H locs) (hl : lv_has ls 5 [(0, .ref (gR G 0))]) (h : BX9_load_21  S = some res) : W p l e (rmL 7 2 12) s m args below meth c H locs 2 12 (vx_MQ below (QTI G res) (XT G res) args s 2 12 (Ab G)) (F0 m 21 ls []) := by
  unfold BX9_load_21 at h
  have hx := C.1.1
  have hb := C.1.2.1
  refine lv_aload_n hx hb dX9_load_21 rfl (lv_at hl 0 rfl) ?_
  refine gX9_35 C hd (rfl : kd 0 = 9) (q := 36) rfl dX9_load_22 (fun y1 => ?_)
  refine lv_iconst (v := 1) hx hb dX9_load_25 (by decide) ?_
  obtain ⟨S1, hc, h⟩ := bv_some h
  refine R_cVv C hd (ccX4_refuse l G y1 hc) kX9_92 rfl (by decide) y1 hl.1 ⟨by decide, by decide⟩ rfl rfl (Nat.le_of_ble_eq_true rfl) dX9_load_26 ⟨by decide, by decide⟩ (fun H locs hd => ?_)
  generalize S1 = S at h hd
  refine lv_iconst (v := -1) hx hb dX9_load_29 (by decide) ?_
  exact R_tiret C hr hd h (by decide) (by decide) dX9_load_30
def fX9_load (a1 : Int32) (a2 : Int32) (a3 : Int32) (S : St) : Option TR :=
  bt (fX9_needSinger a1 S) fun x1 S => bt (fX9_needField a2 S) fun x2 S => (if a3 < 1 then (BX9_load_21  S) else (if a3 ≤ 9 then bv (fX4_keepAct 36 S) fun S => vl ((14 + (a1 * 8)) + a2) fun x6 => rd S 37 x6 fun x11 => vl (if (x11 + a3) < 99 then x11 + a3 else 99) fun x12 => wr S 37 x6 x12 fun S => rd S 37 x6 fun x15 => tri x15 S else (BX9_load_21  S)))
set_option maxHeartbeats 4000000 in
set_option maxRecDepth 20000 in
theorem sfX9_load (C : Cx p s m args meth c cX9_load 5 RX9 G) (hr : meth.sig.returnType = some .int) (ht : ∀ x ∈ c.exceptionTable.toList, False) (hst : l.stackTraces = false) {a1 : Int32} {a2 : Int32} {a3 : Int32} {S : St} {res : TR} {H : Heap} {locs : List Loc} {ls : Array Slot}  (hd : Dy G S s H locs) (hl : lv_has ls 5 [(0, .ref (gR G 0)), (1, .int a1), (2, .int a2), (3, .int a3)]) (h : fX9_load a1 a2 a3 S = some res) : W p l e (rmL 7 2 12) s m args below meth c H locs 0 0 (vx_MQ below (QTI G res) (XT G res) args s 2 12 (Ab G)) (F0 m 0 ls []) := by
  unfold fX9_load at h
  have hx := C.1.1
  have hb := C.1.2.1
  refine lv_aload_n hx hb dX9_load_0 rfl (lv_at hl 0 rfl) ?_
  refine lv_iload_n hx hb dX9_load_1 rfl (lv_at hl 1 rfl) ?_
  refine R_tVv C hd ht hst h (fun r0 hc => ccX9_needSinger l G hst  hc) kX9_160 rfl (by decide) (rfl : kd 0 = 9) hl.1 ⟨by decide, by decide⟩ rfl rfl (Nat.le_of_ble_eq_true rfl) dX9_load_2 ⟨by decide, by decide⟩ (by decide) (by decide) (fun x1 S H locs hd h => ?_)
  refine lv_aload_n hx hb dX9_load_5 rfl (lv_at hl 0 rfl) ?_
  refine lv_iload_n hx hb dX9_load_6 rfl (lv_at hl 2 rfl) ?_
  refine R_tVv C hd ht hst h (fun r0 hc => ccX9_needField l G hst  hc) kX9_129 rfl (by decide) (rfl : kd 0 = 9) hl.1 ⟨by decide, by decide⟩ rfl rfl (Nat.le_of_ble_eq_true rfl) dX9_load_7 ⟨by decide, by decide⟩ (by decide) (by decide) (fun x2 S H locs hd h => ?_)
  refine lv_iload_n hx hb dX9_load_10 rfl (lv_at hl 3 rfl) ?_
  refine lv_iconst (v := 1) hx hb dX9_load_11 (by decide) ?_
  refine lv_icmp_lt (tgt := 21) hx hb dX9_load_12 (by decide) (fun c3 => ?_) (fun c3 => ?_)
  · rw [if_pos c3] at h
    exact sBX9_load_21 C hr ht hst  hd (lv_sub hl [0] rfl) h
  · rw [if_neg c3] at h
    refine lv_iload_n hx hb dX9_load_15 rfl (lv_at hl 3 rfl) ?_
    refine lv_bipush (v := 9) hx hb dX9_load_16 (by decide) ?_
    refine lv_icmp_le (tgt := 31) hx hb dX9_load_18 (by decide) (fun c4 => ?_) (fun c4 => ?_)
    · rw [if_pos c4] at h
      refine lv_aload_n hx hb dX9_load_31 rfl (lv_at hl 0 rfl) ?_
      refine gX9_35 C hd (rfl : kd 0 = 9) (q := 36) rfl dX9_load_32 (fun y5 => ?_)
      obtain ⟨S1, hc, h⟩ := bv_some h
      refine R_cVv C hd (ccX4_keepAct l G y5 hc) kX9_180 rfl (by decide) y5 hl.1 ⟨by decide, by decide⟩ rfl rfl (Nat.le_of_ble_eq_true rfl) dX9_load_35 ⟨by decide, by decide⟩ (fun H locs hd => ?_)
      generalize S1 = S at h hd
      refine lv_bipush (v := 14) hx hb dX9_load_38 (by decide) ?_
      refine lv_iload_n hx hb dX9_load_40 rfl (lv_at hl 1 rfl) ?_
      refine lv_bipush (v := 8) hx hb dX9_load_41 (by decide) ?_
      refine lv_imul hx hb dX9_load_43 ?_
      refine lv_iadd hx hb dX9_load_44 ?_
      refine lv_iload_n hx hb dX9_load_45 rfl (lv_at hl 2 rfl) ?_
      refine lv_iadd hx hb dX9_load_46 ?_
      refine R_vl h (fun x6 h => ?_)
      refine lv_istore (lv' := [(4, .int x6), (0, .ref (gR G 0)), (1, .int a1), (2, .int a2), (3, .int a3)]) hx hb dX9_load_47 hl (by decide) rfl (fun ls hl => ?_)
      refine lv_aload_n hx hb dX9_load_49 rfl (lv_at hl 1 rfl) ?_
      refine gX9_35 C hd (rfl : kd 0 = 9) (q := 36) rfl dX9_load_50 (fun y7 => ?_)
      refine gX9_111 C hd y7 (q := 37) rfl dX9_load_53 (fun y8 => ?_)
      refine lv_iload hx hb dX9_load_56 (lv_at hl 0 rfl) ?_
      refine lv_bipush (v := 99) hx hb dX9_load_58 (by decide) ?_
      refine lv_aload_n hx hb dX9_load_60 rfl (lv_at hl 1 rfl) ?_
      refine gX9_35 C hd (rfl : kd 0 = 9) (q := 36) rfl dX9_load_61 (fun y9 => ?_)
      refine gX9_111 C hd y9 (q := 37) rfl dX9_load_64 (fun y10 => ?_)
      refine lv_iload hx hb dX9_load_67 (lv_at hl 0 rfl) ?_
      refine R_iald C hd y10 h dX9_load_69 (fun x11 h => ?_)
      refine lv_iload_n hx hb dX9_load_70 rfl (lv_at hl 4 rfl) ?_
      refine lv_iadd hx hb dX9_load_71 ?_
      refine R_mmin C hl.1 kmX9_193 (Nat.le_of_ble_eq_true rfl) (Nat.le_of_ble_eq_true rfl) (Nat.le_of_ble_eq_true rfl) (Nat.le_of_ble_eq_true rfl) dX9_load_72 ?_
      refine R_vl h (fun x12 h => ?_)
      refine R_iast C hd y8 h dX9_load_75 (fun S H locs hd h => ?_)
      refine lv_aload_n hx hb dX9_load_76 rfl (lv_at hl 1 rfl) ?_
      refine gX9_35 C hd (rfl : kd 0 = 9) (q := 36) rfl dX9_load_77 (fun y13 => ?_)
      refine gX9_111 C hd y13 (q := 37) rfl dX9_load_80 (fun y14 => ?_)
      refine lv_iload hx hb dX9_load_83 (lv_at hl 0 rfl) ?_
      refine R_iald C hd y14 h dX9_load_85 (fun x15 h => ?_)
      exact R_tiret C hr hd h (by decide) (by decide) dX9_load_86
    · rw [if_neg c4] at h
      exact sBX9_load_21 C hr ht hst  hd (lv_sub hl [0] rfl) h
set_option maxRecDepth 20000 in
theorem ccX9_load (l : Launch) (G : Gt) (hst : l.stackTraces = false) {a1 : Int32} {a2 : Int32} {a3 : Int32} {S : St} {res : TR}  (h : fX9_load a1 a2 a3 S = some res) : vx_Met l yX9_load (wm yX9_load cX9_load 5 (some .int)) (rmL 7 2 12) (PcW G S [.ref (gR G 0), .int a1, .int a2, .int a3]) (QTI G res) (XT G res) 2 12 (Ab G) := by
  refine vx_ofW (cc := cX9_load) (maxL := 5) (ret := (some .int)) (by decide) rfl ?_
  intro p e s m args below meth c s₁ B hml ht hv
  obtain ⟨rfl, hK, hP⟩ := hv
  have C : Cx p s m _ meth c cX9_load 5 RX9 G := ⟨⟨B.exec, B.bytes, hml, findClass_of_methodNamed B.named, fun w hw => atoms_spec (ws := wm yX9_load cX9_load 5 (some .int)) B.pre w (List.mem_cons_of_mem _ hw)⟩, B.notSynchronized, hK⟩
  have hl := lv_entry ([.ref (gR G 0), .int a1, .int a2, .int a3]) (n := 5) (Nat.le_of_ble_eq_true rfl)
  rw [lg_entry_eq]
  generalize (lg_sl ([.ref (gR G 0), .int a1, .int a2, .int a3]) ++ List.replicate (5 - (lg_sl ([.ref (gR G 0), .int a1, .int a2, .int a3])).length) Slot.unset).toArray = ls at hl ⊢
  exact sfX9_load C B.returns ht hst  ⟨hP, va_S.rf⟩ hl h
def BX9_change_27  (S : St) : Option TR :=
  bv (fX4_refuse 36 1 S) fun S => tri ((-1)) S
set_option maxHeartbeats 4000000 in
set_option maxRecDepth 20000 in
theorem sBX9_change_27 (C : Cx p s m args meth c cX9_change 6 RX9 G) (hr : meth.sig.returnType = some .int) (ht : ∀ x ∈ c.exceptionTable.toList, False) (hst : l.stackTraces = false)  {S : St} {res : TR} {H : Heap} {locs : List Loc} {ls : Array Slot}  (hd : Dy G S s H locs) (hl : lv_has ls 6 [(0, .ref (gR G 0))]) (h : BX9_change_27  S = some res) : W p l e (rmL 7 2 12) s m args below meth c H locs 2 12 (vx_MQ below (QTI G res) (XT G res) args s 2 12 (Ab G)) (F0 m 27 ls []) := by
  unfold BX9_change_27 at h
  have hx := C.1.1
  have hb := C.1.2.1
  refine lv_aload_n hx hb dX9_change_27 rfl (lv_at hl 0 rfl) ?_
  refine gX9_35 C hd (rfl : kd 0 = 9) (q := 36) rfl dX9_change_28 (fun y1 => ?_)
  refine lv_iconst (v := 1) hx hb dX9_change_31 (by decide) ?_
  obtain ⟨S1, hc, h⟩ := bv_some h
  refine R_cVv C hd (ccX4_refuse l G y1 hc) kX9_92 rfl (by decide) y1 hl.1 ⟨by decide, by decide⟩ rfl rfl (Nat.le_of_ble_eq_true rfl) dX9_change_32 ⟨by decide, by decide⟩ (fun H locs hd => ?_)
  generalize S1 = S at h hd
  refine lv_iconst (v := -1) hx hb dX9_change_35 (by decide) ?_
  exact R_tiret C hr hd h (by decide) (by decide) dX9_change_36
def fX9_change (a1 : Int32) (a2 : Int32) (a3 : Int32) (S : St) : Option TR :=
  bt (fX9_needSinger a1 S) fun x1 S => bt (fX9_needField a3 S) fun x2 S => (if a2 < 0 then (BX9_change_27  S) else gm S 0 3 8 fun q4 => rd S (sr q4 8) a1 fun x6 => (if a2 < x6 then bv (fX4_keepAct 36 S) fun S => vl ((62 + (a1 * 6)) + a2) fun x9 => rd S 37 x9 fun x12 => wr S 37 x9 a3 fun S => tri x12 S else (BX9_change_27  S)))
set_option maxHeartbeats 4000000 in
set_option maxRecDepth 20000 in
theorem sfX9_change (C : Cx p s m args meth c cX9_change 6 RX9 G) (hr : meth.sig.returnType = some .int) (ht : ∀ x ∈ c.exceptionTable.toList, False) (hst : l.stackTraces = false) {a1 : Int32} {a2 : Int32} {a3 : Int32} {S : St} {res : TR} {H : Heap} {locs : List Loc} {ls : Array Slot}  (hd : Dy G S s H locs) (hl : lv_has ls 6 [(0, .ref (gR G 0)), (1, .int a1), (2, .int a2), (3, .int a3)]) (h : fX9_change a1 a2 a3 S = some res) : W p l e (rmL 7 2 12) s m args below meth c H locs 0 0 (vx_MQ below (QTI G res) (XT G res) args s 2 12 (Ab G)) (F0 m 0 ls []) := by
  unfold fX9_change at h
  have hx := C.1.1
  have hb := C.1.2.1
  refine lv_aload_n hx hb dX9_change_0 rfl (lv_at hl 0 rfl) ?_
  refine lv_iload_n hx hb dX9_change_1 rfl (lv_at hl 1 rfl) ?_
  refine R_tVv C hd ht hst h (fun r0 hc => ccX9_needSinger l G hst  hc) kX9_160 rfl (by decide) (rfl : kd 0 = 9) hl.1 ⟨by decide, by decide⟩ rfl rfl (Nat.le_of_ble_eq_true rfl) dX9_change_2 ⟨by decide, by decide⟩ (by decide) (by decide) (fun x1 S H locs hd h => ?_)
  refine lv_aload_n hx hb dX9_change_5 rfl (lv_at hl 0 rfl) ?_
  refine lv_iload_n hx hb dX9_change_6 rfl (lv_at hl 3 rfl) ?_
  refine R_tVv C hd ht hst h (fun r0 hc => ccX9_needField l G hst  hc) kX9_129 rfl (by decide) (rfl : kd 0 = 9) hl.1 ⟨by decide, by decide⟩ rfl rfl (Nat.le_of_ble_eq_true rfl) dX9_change_7 ⟨by decide, by decide⟩ (by decide) (by decide) (fun x2 S H locs hd h => ?_)
  refine lv_iload_n hx hb dX9_change_10 rfl (lv_at hl 2 rfl) ?_
  refine lv_if_lt (tgt := 27) hx hb dX9_change_11 (by decide) (fun c3 => ?_) (fun c3 => ?_)
  · rw [if_pos c3] at h
    exact sBX9_change_27 C hr ht hst  hd (lv_sub hl [0] rfl) h
  · rw [if_neg c3] at h
    refine lv_iload_n hx hb dX9_change_14 rfl (lv_at hl 2 rfl) ?_
    refine lv_aload_n hx hb dX9_change_15 rfl (lv_at hl 0 rfl) ?_
    refine gX9_16 C hd (rfl : kd 0 = 9) h dX9_change_16 (fun q4 kq4 h => ?_)
    refine gX9_163 C hd kq4 (q := sr q4 8) rfl dX9_change_19 (fun y5 => ?_)
    refine lv_iload_n hx hb dX9_change_22 rfl (lv_at hl 1 rfl) ?_
    refine R_iald C hd y5 h dX9_change_23 (fun x6 h => ?_)
    refine lv_icmp_lt (tgt := 37) hx hb dX9_change_24 (by decide) (fun c7 => ?_) (fun c7 => ?_)
    · rw [if_pos c7] at h
      refine lv_aload_n hx hb dX9_change_37 rfl (lv_at hl 0 rfl) ?_
      refine gX9_35 C hd (rfl : kd 0 = 9) (q := 36) rfl dX9_change_38 (fun y8 => ?_)
      obtain ⟨S1, hc, h⟩ := bv_some h
      refine R_cVv C hd (ccX4_keepAct l G y8 hc) kX9_180 rfl (by decide) y8 hl.1 ⟨by decide, by decide⟩ rfl rfl (Nat.le_of_ble_eq_true rfl) dX9_change_41 ⟨by decide, by decide⟩ (fun H locs hd => ?_)
      generalize S1 = S at h hd
      refine lv_bipush (v := 62) hx hb dX9_change_44 (by decide) ?_
      refine lv_iload_n hx hb dX9_change_46 rfl (lv_at hl 1 rfl) ?_
      refine lv_bipush (v := 6) hx hb dX9_change_47 (by decide) ?_
      refine lv_imul hx hb dX9_change_49 ?_
      refine lv_iadd hx hb dX9_change_50 ?_
      refine lv_iload_n hx hb dX9_change_51 rfl (lv_at hl 2 rfl) ?_
      refine lv_iadd hx hb dX9_change_52 ?_
      refine R_vl h (fun x9 h => ?_)
      refine lv_istore (lv' := [(4, .int x9), (0, .ref (gR G 0)), (1, .int a1), (2, .int a2), (3, .int a3)]) hx hb dX9_change_53 hl (by decide) rfl (fun ls hl => ?_)
      refine lv_aload_n hx hb dX9_change_55 rfl (lv_at hl 1 rfl) ?_
      refine gX9_35 C hd (rfl : kd 0 = 9) (q := 36) rfl dX9_change_56 (fun y10 => ?_)
      refine gX9_111 C hd y10 (q := 37) rfl dX9_change_59 (fun y11 => ?_)
      refine lv_iload hx hb dX9_change_62 (lv_at hl 0 rfl) ?_
      refine R_iald C hd y11 h dX9_change_64 (fun x12 h => ?_)
      refine lv_istore (lv' := [(5, .int x12), (4, .int x9), (0, .ref (gR G 0)), (1, .int a1), (2, .int a2), (3, .int a3)]) hx hb dX9_change_65 hl (by decide) rfl (fun ls hl => ?_)
      refine lv_aload_n hx hb dX9_change_67 rfl (lv_at hl 2 rfl) ?_
      refine gX9_35 C hd (rfl : kd 0 = 9) (q := 36) rfl dX9_change_68 (fun y13 => ?_)
      refine gX9_111 C hd y13 (q := 37) rfl dX9_change_71 (fun y14 => ?_)
      refine lv_iload hx hb dX9_change_74 (lv_at hl 1 rfl) ?_
      refine lv_iload_n hx hb dX9_change_76 rfl (lv_at hl 5 rfl) ?_
      refine R_iast C hd y14 h dX9_change_77 (fun S H locs hd h => ?_)
      refine lv_iload hx hb dX9_change_78 (lv_at hl 0 rfl) ?_
      exact R_tiret C hr hd h (by decide) (by decide) dX9_change_80
    · rw [if_neg c7] at h
      exact sBX9_change_27 C hr ht hst  hd (lv_sub hl [0] rfl) h
set_option maxRecDepth 20000 in
theorem ccX9_change (l : Launch) (G : Gt) (hst : l.stackTraces = false) {a1 : Int32} {a2 : Int32} {a3 : Int32} {S : St} {res : TR}  (h : fX9_change a1 a2 a3 S = some res) : vx_Met l yX9_change (wm yX9_change cX9_change 6 (some .int)) (rmL 7 2 12) (PcW G S [.ref (gR G 0), .int a1, .int a2, .int a3]) (QTI G res) (XT G res) 2 12 (Ab G) := by
  refine vx_ofW (cc := cX9_change) (maxL := 6) (ret := (some .int)) (by decide) rfl ?_
  intro p e s m args below meth c s₁ B hml ht hv
  obtain ⟨rfl, hK, hP⟩ := hv
  have C : Cx p s m _ meth c cX9_change 6 RX9 G := ⟨⟨B.exec, B.bytes, hml, findClass_of_methodNamed B.named, fun w hw => atoms_spec (ws := wm yX9_change cX9_change 6 (some .int)) B.pre w (List.mem_cons_of_mem _ hw)⟩, B.notSynchronized, hK⟩
  have hl := lv_entry ([.ref (gR G 0), .int a1, .int a2, .int a3]) (n := 6) (Nat.le_of_ble_eq_true rfl)
  rw [lg_entry_eq]
  generalize (lg_sl ([.ref (gR G 0), .int a1, .int a2, .int a3]) ++ List.replicate (6 - (lg_sl ([.ref (gR G 0), .int a1, .int a2, .int a3])).length) Slot.unset).toArray = ls at hl ⊢
  exact sfX9_change C B.returns ht hst  ⟨hP, va_S.rf⟩ hl h
def BX9_sell_15 (l1 : Int32) (l2 : Int32) (S : St) : Option TR :=
  rd S 37 (98 + l1) fun x3 => (if x3 = l2 then bv (fX4_refuse 36 1 S) fun S => trz 0 S else bv (fX4_keepAct 36 S) fun S => wr S 37 (98 + l1) l2 fun S => trz 1 S)
set_option maxHeartbeats 4000000 in
set_option maxRecDepth 20000 in
theorem sBX9_sell_15 (C : Cx p s m args meth c cX9_sell 3 RX9 G) (hr : meth.sig.returnType = some .boolean) (ht : ∀ x ∈ c.exceptionTable.toList, False) (hst : l.stackTraces = false) {l1 : Int32} {l2 : Int32} {S : St} {res : TR} {H : Heap} {locs : List Loc} {ls : Array Slot}  (hd : Dy G S s H locs) (hl : lv_has ls 3 [(0, .ref (gR G 0)), (1, .int l1), (2, .int l2)]) (h : BX9_sell_15 l1 l2 S = some res) : W p l e (rmL 7 2 12) s m args below meth c H locs 2 12 (vx_MQ below (QTI G res) (XT G res) args s 2 12 (Ab G)) (F0 m 15 ls []) := by
  unfold BX9_sell_15 at h
  have hx := C.1.1
  have hb := C.1.2.1
  refine lv_aload_n hx hb dX9_sell_15 rfl (lv_at hl 0 rfl) ?_
  refine gX9_35 C hd (rfl : kd 0 = 9) (q := 36) rfl dX9_sell_16 (fun y1 => ?_)
  refine gX9_111 C hd y1 (q := 37) rfl dX9_sell_19 (fun y2 => ?_)
  refine lv_bipush (v := 98) hx hb dX9_sell_22 (by decide) ?_
  refine lv_iload_n hx hb dX9_sell_24 rfl (lv_at hl 1 rfl) ?_
  refine lv_iadd hx hb dX9_sell_25 ?_
  refine R_iald C hd y2 h dX9_sell_26 (fun x3 h => ?_)
  refine lv_iload_n hx hb dX9_sell_27 rfl (lv_at hl 2 rfl) ?_
  refine lv_icmp_ne (tgt := 41) hx hb dX9_sell_28 (by decide) (fun c4 => ?_) (fun c4 => ?_)
  · rw [if_neg c4] at h
    refine lv_aload_n hx hb dX9_sell_41 rfl (lv_at hl 0 rfl) ?_
    refine gX9_35 C hd (rfl : kd 0 = 9) (q := 36) rfl dX9_sell_42 (fun y5 => ?_)
    obtain ⟨S1, hc, h⟩ := bv_some h
    refine R_cVv C hd (ccX4_keepAct l G y5 hc) kX9_180 rfl (by decide) y5 hl.1 ⟨by decide, by decide⟩ rfl rfl (Nat.le_of_ble_eq_true rfl) dX9_sell_45 ⟨by decide, by decide⟩ (fun H locs hd => ?_)
    generalize S1 = S at h hd
    refine lv_aload_n hx hb dX9_sell_48 rfl (lv_at hl 0 rfl) ?_
    refine gX9_35 C hd (rfl : kd 0 = 9) (q := 36) rfl dX9_sell_49 (fun y6 => ?_)
    refine gX9_111 C hd y6 (q := 37) rfl dX9_sell_52 (fun y7 => ?_)
    refine lv_bipush (v := 98) hx hb dX9_sell_55 (by decide) ?_
    refine lv_iload_n hx hb dX9_sell_57 rfl (lv_at hl 1 rfl) ?_
    refine lv_iadd hx hb dX9_sell_58 ?_
    refine lv_iload_n hx hb dX9_sell_59 rfl (lv_at hl 2 rfl) ?_
    refine R_iast C hd y7 h dX9_sell_60 (fun S H locs hd h => ?_)
    refine lv_iconst (v := 1) hx hb dX9_sell_61 (by decide) ?_
    exact R_tzret C hr hd h (by decide) (by decide) dX9_sell_62
  · rw [if_pos c4] at h
    refine lv_aload_n hx hb dX9_sell_31 rfl (lv_at hl 0 rfl) ?_
    refine gX9_35 C hd (rfl : kd 0 = 9) (q := 36) rfl dX9_sell_32 (fun y8 => ?_)
    refine lv_iconst (v := 1) hx hb dX9_sell_35 (by decide) ?_
    obtain ⟨S1, hc, h⟩ := bv_some h
    refine R_cVv C hd (ccX4_refuse l G y8 hc) kX9_92 rfl (by decide) y8 hl.1 ⟨by decide, by decide⟩ rfl rfl (Nat.le_of_ble_eq_true rfl) dX9_sell_36 ⟨by decide, by decide⟩ (fun H locs hd => ?_)
    generalize S1 = S at h hd
    refine lv_iconst (v := 0) hx hb dX9_sell_39 (by decide) ?_
    exact R_tzret C hr hd h (by decide) (by decide) dX9_sell_40
def fX9_sell (a1 : Int32) (a2 : Int32) (S : St) : Option TR :=
  bt (fX9_needField a1 S) fun x1 S => (if a2 = (-1) then (BX9_sell_15 a1 a2 S) else bt (fX9_needSinger a2 S) fun x3 S => (BX9_sell_15 a1 a2 S))
set_option maxHeartbeats 4000000 in
set_option maxRecDepth 20000 in
theorem sfX9_sell (C : Cx p s m args meth c cX9_sell 3 RX9 G) (hr : meth.sig.returnType = some .boolean) (ht : ∀ x ∈ c.exceptionTable.toList, False) (hst : l.stackTraces = false) {a1 : Int32} {a2 : Int32} {S : St} {res : TR} {H : Heap} {locs : List Loc} {ls : Array Slot}  (hd : Dy G S s H locs) (hl : lv_has ls 3 [(0, .ref (gR G 0)), (1, .int a1), (2, .int a2)]) (h : fX9_sell a1 a2 S = some res) : W p l e (rmL 7 2 12) s m args below meth c H locs 0 0 (vx_MQ below (QTI G res) (XT G res) args s 2 12 (Ab G)) (F0 m 0 ls []) := by
  unfold fX9_sell at h
  have hx := C.1.1
  have hb := C.1.2.1
  refine lv_aload_n hx hb dX9_sell_0 rfl (lv_at hl 0 rfl) ?_
  refine lv_iload_n hx hb dX9_sell_1 rfl (lv_at hl 1 rfl) ?_
  refine R_tVv C hd ht hst h (fun r0 hc => ccX9_needField l G hst  hc) kX9_129 rfl (by decide) (rfl : kd 0 = 9) hl.1 ⟨by decide, by decide⟩ rfl rfl (Nat.le_of_ble_eq_true rfl) dX9_sell_2 ⟨by decide, by decide⟩ (by decide) (by decide) (fun x1 S H locs hd h => ?_)
  refine lv_iload_n hx hb dX9_sell_5 rfl (lv_at hl 2 rfl) ?_
  refine lv_iconst (v := -1) hx hb dX9_sell_6 (by decide) ?_
  refine lv_icmp_eq (tgt := 15) hx hb dX9_sell_7 (by decide) (fun c2 => ?_) (fun c2 => ?_)
  · rw [if_pos c2] at h
    refine W.widen (k := 2) (n := 12) (by decide) (by decide) ?_
    exact sBX9_sell_15 C hr ht hst  hd (lv_sub hl [0, 1, 2] rfl) h
  · rw [if_neg c2] at h
    refine lv_aload_n hx hb dX9_sell_10 rfl (lv_at hl 0 rfl) ?_
    refine lv_iload_n hx hb dX9_sell_11 rfl (lv_at hl 2 rfl) ?_
    refine R_tVv C hd ht hst h (fun r0 hc => ccX9_needSinger l G hst  hc) kX9_160 rfl (by decide) (rfl : kd 0 = 9) hl.1 ⟨by decide, by decide⟩ rfl rfl (Nat.le_of_ble_eq_true rfl) dX9_sell_12 ⟨by decide, by decide⟩ (by decide) (by decide) (fun x3 S H locs hd h => ?_)
    exact sBX9_sell_15 C hr ht hst  hd (lv_sub hl [0, 1, 2] rfl) h
set_option maxRecDepth 20000 in
theorem ccX9_sell (l : Launch) (G : Gt) (hst : l.stackTraces = false) {a1 : Int32} {a2 : Int32} {S : St} {res : TR}  (h : fX9_sell a1 a2 S = some res) : vx_Met l yX9_sell (wm yX9_sell cX9_sell 3 (some .boolean)) (rmL 7 2 12) (PcW G S [.ref (gR G 0), .int a1, .int a2]) (QTI G res) (XT G res) 2 12 (Ab G) := by
  refine vx_ofW (cc := cX9_sell) (maxL := 3) (ret := (some .boolean)) (by decide) rfl ?_
  intro p e s m args below meth c s₁ B hml ht hv
  obtain ⟨rfl, hK, hP⟩ := hv
  have C : Cx p s m _ meth c cX9_sell 3 RX9 G := ⟨⟨B.exec, B.bytes, hml, findClass_of_methodNamed B.named, fun w hw => atoms_spec (ws := wm yX9_sell cX9_sell 3 (some .boolean)) B.pre w (List.mem_cons_of_mem _ hw)⟩, B.notSynchronized, hK⟩
  have hl := lv_entry ([.ref (gR G 0), .int a1, .int a2]) (n := 3) (Nat.le_of_ble_eq_true rfl)
  rw [lg_entry_eq]
  generalize (lg_sl ([.ref (gR G 0), .int a1, .int a2]) ++ List.replicate (3 - (lg_sl ([.ref (gR G 0), .int a1, .int a2])).length) Slot.unset).toArray = ls at hl ⊢
  exact sfX9_sell C B.returns ht hst  ⟨hP, va_S.rf⟩ hl h
def fX9_undo  (S : St) : Option (Int32 × St) :=
  bd (fX4_undoAct 36 S) fun x2 S => (if x2 = 0 then ri ((-1)) S else ri (S 36 3) S)
set_option maxHeartbeats 4000000 in
set_option maxRecDepth 20000 in
theorem sfX9_undo (C : Cx p s m args meth c cX9_undo 1 RX9 G) (hr : meth.sig.returnType = some .int)  {S : St} {res : (Int32 × St)} {H : Heap} {locs : List Loc} {ls : Array Slot}  (hd : Dy G S s H locs) (hl : lv_has ls 1 [(0, .ref (gR G 0))]) (h : fX9_undo  S = some res) : W p l e (rmL 4 0 0) s m args below meth c H locs 0 0 (MQ below (QI G res.1 res.2) args s 0 0 (Ab G)) (F0 m 0 ls []) := by
  unfold fX9_undo at h
  have hx := C.1.1
  have hb := C.1.2.1
  refine lv_aload_n hx hb dX9_undo_0 rfl (lv_at hl 0 rfl) ?_
  refine gX9_35 C hd (rfl : kd 0 = 9) (q := 36) rfl dX9_undo_1 (fun y1 => ?_)
  obtain ⟨x2, S1, hc, h⟩ := bd_some h
  refine R_cVi C hd (ccX4_undoAct l G y1 hc) kX9_199 rfl (by decide) y1 hl.1 ⟨by decide, by decide⟩ rfl rfl (Nat.le_of_ble_eq_true rfl) dX9_undo_4 ⟨Nat.zero_le _, Nat.zero_le _⟩ (fun H locs hd => ?_)
  generalize S1 = S at h hd
  refine lv_if_eq (tgt := 20) hx hb dX9_undo_7 (by decide) (fun c3 => ?_) (fun c3 => ?_)
  · rw [if_pos c3] at h
    refine lv_iconst (v := -1) hx hb dX9_undo_20 (by decide) ?_
    exact R_iret C hr hd h dX9_undo_21
  · rw [if_neg c3] at h
    refine lv_aload_n hx hb dX9_undo_10 rfl (lv_at hl 0 rfl) ?_
    refine gX9_35 C hd (rfl : kd 0 = 9) (q := 36) rfl dX9_undo_11 (fun y4 => ?_)
    refine gX9_115 C hd y4 dX9_undo_14 ?_
    refine lv_goto (tgt := 21) hx hb dX9_undo_17 (by decide) ?_
    exact R_iret C hr hd h dX9_undo_21
set_option maxRecDepth 20000 in
theorem ccX9_undo (l : Launch) (G : Gt)  {S : St} {res : (Int32 × St)}  (h : fX9_undo  S = some res) : Met l yX9_undo (wm yX9_undo cX9_undo 1 (some .int)) (rmL 4 0 0) (PcW G S [.ref (gR G 0)]) (QI G res.1 res.2) 0 0 (Ab G) := by
  refine Met.ofW (cc := cX9_undo) (maxL := 1) (ret := (some .int)) (by decide) rfl ?_
  intro p e s m args below meth c s₁ B hml hv
  obtain ⟨rfl, hK, hP⟩ := hv
  have C : Cx p s m _ meth c cX9_undo 1 RX9 G := ⟨⟨B.exec, B.bytes, hml, findClass_of_methodNamed B.named, fun w hw => atoms_spec (ws := wm yX9_undo cX9_undo 1 (some .int)) B.pre w (List.mem_cons_of_mem _ hw)⟩, B.notSynchronized, hK⟩
  have hl := lv_entry ([.ref (gR G 0)]) (n := 1) (Nat.le_of_ble_eq_true rfl)
  rw [lg_entry_eq]
  generalize (lg_sl ([.ref (gR G 0)]) ++ List.replicate (1 - (lg_sl ([.ref (gR G 0)])).length) Slot.unset).toArray = ls at hl ⊢
  exact sfX9_undo C B.returns  ⟨hP, va_S.rf⟩ hl h
def fX9_needHours (a1 : Int32) (a2 : Int32) (S : St) : Option TR :=
  (if a1 < a2 then trx 2 S else (if a1 ≤ 60 then tri 0 S else trx 2 S))
set_option maxHeartbeats 4000000 in
set_option maxRecDepth 20000 in
theorem sfX9_needHours (C : Cx p s m args meth c cX9_needHours 3 RX9 G) (hr : meth.sig.returnType = none) (ht : ∀ x ∈ c.exceptionTable.toList, False) (hst : l.stackTraces = false) {a1 : Int32} {a2 : Int32} {S : St} {res : TR} {H : Heap} {locs : List Loc} {ls : Array Slot}  (hd : Dy G S s H locs) (hl : lv_has ls 3 [(0, .ref (gR G 0)), (1, .int a1), (2, .int a2)]) (h : fX9_needHours a1 a2 S = some res) : W p l e (rmL 6 1 6) s m args below meth c H locs 0 0 (vx_MQ below (QTV G res) (XT G res) args s 1 6 (Ab G)) (F0 m 0 ls []) := by
  unfold fX9_needHours at h
  have hx := C.1.1
  have hb := C.1.2.1
  refine lv_iload_n hx hb dX9_needHours_0 rfl (lv_at hl 1 rfl) ?_
  refine lv_iload_n hx hb dX9_needHours_1 rfl (lv_at hl 2 rfl) ?_
  refine lv_icmp_lt (tgt := 11) hx hb dX9_needHours_2 (by decide) (fun c1 => ?_) (fun c1 => ?_)
  · rw [if_pos c1] at h
    exact R_throwW C hd h ht hst hl.1 ktX9_2_82 (List.mem_of_getElem? (i := 27) rfl) (Nat.le_of_ble_eq_true rfl) (Nat.le_of_ble_eq_true rfl) (Nat.le_of_ble_eq_true rfl) (Nat.le_of_ble_eq_true rfl) (Nat.le_of_ble_eq_true rfl) (Nat.le_of_ble_eq_true rfl) dX9_needHours_11 dX9_needHours_14 dX9_needHours_15 dX9_needHours_18 dX9_needHours_21
  · rw [if_neg c1] at h
    refine lv_iload_n hx hb dX9_needHours_5 rfl (lv_at hl 1 rfl) ?_
    refine lv_bipush (v := 60) hx hb dX9_needHours_6 (by decide) ?_
    refine lv_icmp_le (tgt := 22) hx hb dX9_needHours_8 (by decide) (fun c2 => ?_) (fun c2 => ?_)
    · rw [if_pos c2] at h
      exact R_tvret C hr hd h (by decide) (by decide) dX9_needHours_22
    · rw [if_neg c2] at h
      exact R_throwW C hd h ht hst hl.1 ktX9_2_82 (List.mem_of_getElem? (i := 27) rfl) (Nat.le_of_ble_eq_true rfl) (Nat.le_of_ble_eq_true rfl) (Nat.le_of_ble_eq_true rfl) (Nat.le_of_ble_eq_true rfl) (Nat.le_of_ble_eq_true rfl) (Nat.le_of_ble_eq_true rfl) dX9_needHours_11 dX9_needHours_14 dX9_needHours_15 dX9_needHours_18 dX9_needHours_21
set_option maxRecDepth 20000 in
theorem ccX9_needHours (l : Launch) (G : Gt) (hst : l.stackTraces = false) {a1 : Int32} {a2 : Int32} {S : St} {res : TR}  (h : fX9_needHours a1 a2 S = some res) : vx_Met l yX9_needHours (wm yX9_needHours cX9_needHours 3 (none)) (rmL 6 1 6) (PcW G S [.ref (gR G 0), .int a1, .int a2]) (QTV G res) (XT G res) 1 6 (Ab G) := by
  refine vx_ofW (cc := cX9_needHours) (maxL := 3) (ret := none) (by decide) rfl ?_
  intro p e s m args below meth c s₁ B hml ht hv
  obtain ⟨rfl, hK, hP⟩ := hv
  have C : Cx p s m _ meth c cX9_needHours 3 RX9 G := ⟨⟨B.exec, B.bytes, hml, findClass_of_methodNamed B.named, fun w hw => atoms_spec (ws := wm yX9_needHours cX9_needHours 3 (none)) B.pre w (List.mem_cons_of_mem _ hw)⟩, B.notSynchronized, hK⟩
  have hl := lv_entry ([.ref (gR G 0), .int a1, .int a2]) (n := 3) (Nat.le_of_ble_eq_true rfl)
  rw [lg_entry_eq]
  generalize (lg_sl ([.ref (gR G 0), .int a1, .int a2]) ++ List.replicate (3 - (lg_sl ([.ref (gR G 0), .int a1, .int a2])).length) Slot.unset).toArray = ls at hl ⊢
  exact sfX9_needHours C B.returns ht hst  ⟨hP, va_S.rf⟩ hl h
def fX9_sung (a1 : Int32) (a2 : Int32) (S : St) : Option TR :=
  bt (fX9_needSinger a1 S) fun x1 S => bt (fX9_needHours a2 1 S) fun x2 S => gm S 0 3 8 fun q4 => bv (fX0_begin q4 37 S) fun S => bv (fX0_go a2 S) fun S => rd S 133 a1 fun x10 => tri x10 S
set_option maxHeartbeats 4000000 in
set_option maxRecDepth 20000 in
theorem sfX9_sung (C : Cx p s m args meth c cX9_sung 3 RX9 G) (hr : meth.sig.returnType = some .int) (ht : ∀ x ∈ c.exceptionTable.toList, False) (hst : l.stackTraces = false) {a1 : Int32} {a2 : Int32} {S : St} {res : TR} {H : Heap} {locs : List Loc} {ls : Array Slot}  (hd : Dy G S s H locs) (hl : lv_has ls 3 [(0, .ref (gR G 0)), (1, .int a1), (2, .int a2)]) (h : fX9_sung a1 a2 S = some res) : W p l e (rmL 8 2 12) s m args below meth c H locs 0 0 (vx_MQ below (QTI G res) (XT G res) args s 2 12 (Ab G)) (F0 m 0 ls []) := by
  unfold fX9_sung at h
  have hx := C.1.1
  have hb := C.1.2.1
  refine lv_aload_n hx hb dX9_sung_0 rfl (lv_at hl 0 rfl) ?_
  refine lv_iload_n hx hb dX9_sung_1 rfl (lv_at hl 1 rfl) ?_
  refine R_tVv C hd ht hst h (fun r0 hc => ccX9_needSinger l G hst  hc) kX9_160 rfl (by decide) (rfl : kd 0 = 9) hl.1 ⟨by decide, by decide⟩ rfl rfl (Nat.le_of_ble_eq_true rfl) dX9_sung_2 ⟨by decide, by decide⟩ (by decide) (by decide) (fun x1 S H locs hd h => ?_)
  refine lv_aload_n hx hb dX9_sung_5 rfl (lv_at hl 0 rfl) ?_
  refine lv_iload_n hx hb dX9_sung_6 rfl (lv_at hl 2 rfl) ?_
  refine lv_iconst (v := 1) hx hb dX9_sung_7 (by decide) ?_
  refine R_tVv C hd ht hst h (fun r0 hc => ccX9_needHours l G hst  hc) kX9_203 rfl (by decide) (rfl : kd 0 = 9) hl.1 ⟨by decide, by decide⟩ rfl rfl (Nat.le_of_ble_eq_true rfl) dX9_sung_8 ⟨by decide, by decide⟩ (by decide) (by decide) (fun x2 S H locs hd h => ?_)
  refine lv_aload_n hx hb dX9_sung_11 rfl (lv_at hl 0 rfl) ?_
  refine gX9_47 C hd (rfl : kd 0 = 9) (q := 130) rfl dX9_sung_12 (fun y3 => ?_)
  refine lv_aload_n hx hb dX9_sung_15 rfl (lv_at hl 0 rfl) ?_
  refine gX9_16 C hd (rfl : kd 0 = 9) h dX9_sung_16 (fun q4 kq4 h => ?_)
  refine lv_aload_n hx hb dX9_sung_19 rfl (lv_at hl 0 rfl) ?_
  refine gX9_35 C hd (rfl : kd 0 = 9) (q := 36) rfl dX9_sung_20 (fun y5 => ?_)
  refine gX9_111 C hd y5 (q := 37) rfl dX9_sung_23 (fun y6 => ?_)
  obtain ⟨S1, hc, h⟩ := bv_some h
  refine R_cVv C hd (ccX0_begin l G kq4 y6 hc) kX9_166 rfl (by decide) y3 hl.1 ⟨by decide, by decide⟩ rfl rfl (Nat.le_of_ble_eq_true rfl) dX9_sung_26 ⟨by decide, by decide⟩ (fun H locs hd => ?_)
  generalize S1 = S at h hd
  refine lv_aload_n hx hb dX9_sung_29 rfl (lv_at hl 0 rfl) ?_
  refine gX9_47 C hd (rfl : kd 0 = 9) (q := 130) rfl dX9_sung_30 (fun y7 => ?_)
  refine lv_iload_n hx hb dX9_sung_33 rfl (lv_at hl 2 rfl) ?_
  obtain ⟨S1, hc, h⟩ := bv_some h
  refine R_cVv C hd (ccX0_go l G  hc) kX9_183 rfl (by decide) y7 hl.1 ⟨by decide, by decide⟩ rfl rfl (Nat.le_of_ble_eq_true rfl) dX9_sung_34 ⟨by decide, by decide⟩ (fun H locs hd => ?_)
  generalize S1 = S at h hd
  refine lv_aload_n hx hb dX9_sung_37 rfl (lv_at hl 0 rfl) ?_
  refine gX9_47 C hd (rfl : kd 0 = 9) (q := 130) rfl dX9_sung_38 (fun y8 => ?_)
  refine gX9_207 C hd y8 (q := 133) rfl dX9_sung_41 (fun y9 => ?_)
  refine lv_iload_n hx hb dX9_sung_44 rfl (lv_at hl 1 rfl) ?_
  refine R_iald C hd y9 h dX9_sung_45 (fun x10 h => ?_)
  exact R_tiret C hr hd h (by decide) (by decide) dX9_sung_46
set_option maxRecDepth 20000 in
theorem ccX9_sung (l : Launch) (G : Gt) (hst : l.stackTraces = false) {a1 : Int32} {a2 : Int32} {S : St} {res : TR}  (h : fX9_sung a1 a2 S = some res) : vx_Met l yX9_sung (wm yX9_sung cX9_sung 3 (some .int)) (rmL 8 2 12) (PcW G S [.ref (gR G 0), .int a1, .int a2]) (QTI G res) (XT G res) 2 12 (Ab G) := by
  refine vx_ofW (cc := cX9_sung) (maxL := 3) (ret := (some .int)) (by decide) rfl ?_
  intro p e s m args below meth c s₁ B hml ht hv
  obtain ⟨rfl, hK, hP⟩ := hv
  have C : Cx p s m _ meth c cX9_sung 3 RX9 G := ⟨⟨B.exec, B.bytes, hml, findClass_of_methodNamed B.named, fun w hw => atoms_spec (ws := wm yX9_sung cX9_sung 3 (some .int)) B.pre w (List.mem_cons_of_mem _ hw)⟩, B.notSynchronized, hK⟩
  have hl := lv_entry ([.ref (gR G 0), .int a1, .int a2]) (n := 3) (Nat.le_of_ble_eq_true rfl)
  rw [lg_entry_eq]
  generalize (lg_sl ([.ref (gR G 0), .int a1, .int a2]) ++ List.replicate (3 - (lg_sl ([.ref (gR G 0), .int a1, .int a2])).length) Slot.unset).toArray = ls at hl ⊢
  exact sfX9_sung C B.returns ht hst  ⟨hP, va_S.rf⟩ hl h
def KX9_behindHowMany_20 (r20 : Int32 → Int32 → Int32 → St → Option (Int32 × St)) (l1 : Int32) (l2 : Int32) (l3 : Int32) (S : St) : Option (Int32 × St) :=
  (if 60 < l3 then ri ((-1)) S else bd (fX0_know l1 l2 S) fun x3 S => (if x3 = 0 then bv (fX0_go 1 S) fun S => vl (l3 + 1) fun x6 => (r20 l1 l2 x6 S) else ri l3 S))
set_option maxHeartbeats 4000000 in
set_option maxRecDepth 20000 in
theorem sKX9_behindHowMany_20 (C : Cx p s m args meth c cX9_behindHowMany 4 RX9 G) (hr : meth.sig.returnType = some .int) {r20 : Int32 → Int32 → Int32 → St → Option (Int32 × St)} (hr20 : ∀ (l1 : Int32) (l2 : Int32) (l3 : Int32) (S : St) (res : (Int32 × St)) (H : Heap) (locs : List Loc) (ls : Array Slot), Dy G S s H locs → lv_has ls 4 [(0, .ref (gR G 0)), (1, .int l1), (2, .int l2), (3, .int l3)] → r20 l1 l2 l3 S = some res → W p l e (rmL 8 0 0) s m args below meth c H locs 0 0 (MQ below (QI G res.1 res.2) args s 0 0 (Ab G)) (F0 m 20 ls [])) {l1 : Int32} {l2 : Int32} {l3 : Int32} {S : St} {res : (Int32 × St)} {H : Heap} {locs : List Loc} {ls : Array Slot}  (hd : Dy G S s H locs) (hl : lv_has ls 4 [(0, .ref (gR G 0)), (1, .int l1), (2, .int l2), (3, .int l3)]) (h : KX9_behindHowMany_20 r20 l1 l2 l3 S = some res) : W p l e (rmL 8 0 0) s m args below meth c H locs 0 0 (MQ below (QI G res.1 res.2) args s 0 0 (Ab G)) (F0 m 20 ls []) := by
  unfold KX9_behindHowMany_20 at h
  have hx := C.1.1
  have hb := C.1.2.1
  refine lv_iload_n hx hb dX9_behindHowMany_20 rfl (lv_at hl 3 rfl) ?_
  refine lv_bipush (v := 60) hx hb dX9_behindHowMany_21 (by decide) ?_
  refine lv_icmp_gt (tgt := 54) hx hb dX9_behindHowMany_23 (by decide) (fun c1 => ?_) (fun c1 => ?_)
  · rw [if_pos c1] at h
    refine lv_iconst (v := -1) hx hb dX9_behindHowMany_54 (by decide) ?_
    exact R_iret C hr hd h dX9_behindHowMany_55
  · rw [if_neg c1] at h
    refine lv_aload_n hx hb dX9_behindHowMany_26 rfl (lv_at hl 0 rfl) ?_
    refine gX9_47 C hd (rfl : kd 0 = 9) (q := 130) rfl dX9_behindHowMany_27 (fun y2 => ?_)
    refine lv_iload_n hx hb dX9_behindHowMany_30 rfl (lv_at hl 1 rfl) ?_
    refine lv_iload_n hx hb dX9_behindHowMany_31 rfl (lv_at hl 2 rfl) ?_
    obtain ⟨x3, S1, hc, h⟩ := bd_some h
    refine R_cVi C hd (ccX0_know l G  hc) kX9_213 rfl (by decide) y2 hl.1 ⟨by decide, by decide⟩ rfl rfl (Nat.le_of_ble_eq_true rfl) dX9_behindHowMany_32 ⟨Nat.zero_le _, Nat.zero_le _⟩ (fun H locs hd => ?_)
    generalize S1 = S at h hd
    refine lv_if_eq (tgt := 40) hx hb dX9_behindHowMany_35 (by decide) (fun c4 => ?_) (fun c4 => ?_)
    · rw [if_pos c4] at h
      refine lv_aload_n hx hb dX9_behindHowMany_40 rfl (lv_at hl 0 rfl) ?_
      refine gX9_47 C hd (rfl : kd 0 = 9) (q := 130) rfl dX9_behindHowMany_41 (fun y5 => ?_)
      refine lv_iconst (v := 1) hx hb dX9_behindHowMany_44 (by decide) ?_
      obtain ⟨S1, hc, h⟩ := bv_some h
      refine R_cVv C hd (ccX0_go l G  hc) kX9_183 rfl (by decide) y5 hl.1 ⟨by decide, by decide⟩ rfl rfl (Nat.le_of_ble_eq_true rfl) dX9_behindHowMany_45 ⟨Nat.zero_le _, Nat.zero_le _⟩ (fun H locs hd => ?_)
      generalize S1 = S at h hd
      refine R_vi h (fun x6 ex6 h => ?_)
      refine lv_iinc (v := x6) (lv' := [(3, .int x6), (0, .ref (gR G 0)), (1, .int l1), (2, .int l2)]) hx hb dX9_behindHowMany_48 hl (k := 3) rfl (by rw [ex6]; rfl) (by decide) rfl (fun ls hl => ?_)
      refine lv_goto (tgt := 20) hx hb dX9_behindHowMany_51 (by decide) ?_
      exact hr20 l1 l2 x6 _ _ _ _ _  hd (lv_sub hl [1, 2, 3, 0] rfl) h
    · rw [if_neg c4] at h
      refine lv_iload_n hx hb dX9_behindHowMany_38 rfl (lv_at hl 3 rfl) ?_
      exact R_iret C hr hd h dX9_behindHowMany_39
def LX9_behindHowMany_20 : Nat → Int32 → Int32 → Int32 → St → Option (Int32 × St)
  | 0 => fun _ _ _ _ => none
  | n + 1 => fun l1 l2 l3 S => KX9_behindHowMany_20 (LX9_behindHowMany_20 n) l1 l2 l3 S
theorem sLX9_behindHowMany_20 (C : Cx p s m args meth c cX9_behindHowMany 4 RX9 G) (hr : meth.sig.returnType = some .int) : ∀ (n : Nat) (l1 : Int32) (l2 : Int32) (l3 : Int32) (S : St) (res : (Int32 × St)) (H : Heap) (locs : List Loc) (ls : Array Slot), Dy G S s H locs → lv_has ls 4 [(0, .ref (gR G 0)), (1, .int l1), (2, .int l2), (3, .int l3)] → LX9_behindHowMany_20 n l1 l2 l3 S = some res → W p l e (rmL 8 0 0) s m args below meth c H locs 0 0 (MQ below (QI G res.1 res.2) args s 0 0 (Ab G)) (F0 m 20 ls []) := by
  intro n
  induction n with
  | zero => intro l1 l2 l3 S res H locs ls  hd hl h; cases h
  | succ n ih =>
    intro l1 l2 l3 S res H locs ls  hd hl h
    exact sKX9_behindHowMany_20 C hr ih  hd hl h
def fX9_behindHowMany (a1 : Int32) (a2 : Int32) (S : St) : Option (Int32 × St) :=
  gm S 0 3 8 fun q2 => bv (fX0_begin q2 37 S) fun S => (LX9_behindHowMany_20 FU a1 a2 0 S)
set_option maxHeartbeats 4000000 in
set_option maxRecDepth 20000 in
theorem sfX9_behindHowMany (C : Cx p s m args meth c cX9_behindHowMany 4 RX9 G) (hr : meth.sig.returnType = some .int) {a1 : Int32} {a2 : Int32} {S : St} {res : (Int32 × St)} {H : Heap} {locs : List Loc} {ls : Array Slot}  (hd : Dy G S s H locs) (hl : lv_has ls 4 [(0, .ref (gR G 0)), (1, .int a1), (2, .int a2)]) (h : fX9_behindHowMany a1 a2 S = some res) : W p l e (rmL 8 0 0) s m args below meth c H locs 0 0 (MQ below (QI G res.1 res.2) args s 0 0 (Ab G)) (F0 m 0 ls []) := by
  unfold fX9_behindHowMany at h
  have hx := C.1.1
  have hb := C.1.2.1
  refine lv_aload_n hx hb dX9_behindHowMany_0 rfl (lv_at hl 0 rfl) ?_
  refine gX9_47 C hd (rfl : kd 0 = 9) (q := 130) rfl dX9_behindHowMany_1 (fun y1 => ?_)
  refine lv_aload_n hx hb dX9_behindHowMany_4 rfl (lv_at hl 0 rfl) ?_
  refine gX9_16 C hd (rfl : kd 0 = 9) h dX9_behindHowMany_5 (fun q2 kq2 h => ?_)
  refine lv_aload_n hx hb dX9_behindHowMany_8 rfl (lv_at hl 0 rfl) ?_
  refine gX9_35 C hd (rfl : kd 0 = 9) (q := 36) rfl dX9_behindHowMany_9 (fun y3 => ?_)
  refine gX9_111 C hd y3 (q := 37) rfl dX9_behindHowMany_12 (fun y4 => ?_)
  obtain ⟨S1, hc, h⟩ := bv_some h
  refine R_cVv C hd (ccX0_begin l G kq2 y4 hc) kX9_166 rfl (by decide) y1 hl.1 ⟨by decide, by decide⟩ rfl rfl (Nat.le_of_ble_eq_true rfl) dX9_behindHowMany_15 ⟨Nat.zero_le _, Nat.zero_le _⟩ (fun H locs hd => ?_)
  generalize S1 = S at h hd
  refine lv_iconst (v := 0) hx hb dX9_behindHowMany_18 (by decide) ?_
  refine lv_istore_n (lv' := [(3, .int 0), (0, .ref (gR G 0)), (1, .int a1), (2, .int a2)]) hx hb dX9_behindHowMany_19 rfl hl (by decide) rfl (fun ls hl => ?_)
  exact sLX9_behindHowMany_20 C hr _ a1 a2 0 _ _ _ _ _  hd (lv_sub hl [1, 2, 3, 0] rfl) h
set_option maxRecDepth 20000 in
theorem ccX9_behindHowMany (l : Launch) (G : Gt) {a1 : Int32} {a2 : Int32} {S : St} {res : (Int32 × St)}  (h : fX9_behindHowMany a1 a2 S = some res) : Met l yX9_behindHowMany (wm yX9_behindHowMany cX9_behindHowMany 4 (some .int)) (rmL 8 0 0) (PcW G S [.ref (gR G 0), .int a1, .int a2]) (QI G res.1 res.2) 0 0 (Ab G) := by
  refine Met.ofW (cc := cX9_behindHowMany) (maxL := 4) (ret := (some .int)) (by decide) rfl ?_
  intro p e s m args below meth c s₁ B hml hv
  obtain ⟨rfl, hK, hP⟩ := hv
  have C : Cx p s m _ meth c cX9_behindHowMany 4 RX9 G := ⟨⟨B.exec, B.bytes, hml, findClass_of_methodNamed B.named, fun w hw => atoms_spec (ws := wm yX9_behindHowMany cX9_behindHowMany 4 (some .int)) B.pre w (List.mem_cons_of_mem _ hw)⟩, B.notSynchronized, hK⟩
  have hl := lv_entry ([.ref (gR G 0), .int a1, .int a2]) (n := 4) (Nat.le_of_ble_eq_true rfl)
  rw [lg_entry_eq]
  generalize (lg_sl ([.ref (gR G 0), .int a1, .int a2]) ++ List.replicate (4 - (lg_sl ([.ref (gR G 0), .int a1, .int a2])).length) Slot.unset).toArray = ls at hl ⊢
  exact sfX9_behindHowMany C B.returns  ⟨hP, va_S.rf⟩ hl h
def fX9_learnt (a1 : Int32) (a2 : Int32) (S : St) : Option TR :=
  bt (fX9_needSinger a1 S) fun x1 S => bt (fX9_needField a2 S) fun x2 S => bd (fX9_behindHowMany ((1 : Int32) <<< (a1 &&& 31)) a2 S) fun x3 S => tri x3 S
set_option maxHeartbeats 4000000 in
set_option maxRecDepth 20000 in
theorem sfX9_learnt (C : Cx p s m args meth c cX9_learnt 3 RX9 G) (hr : meth.sig.returnType = some .int) (ht : ∀ x ∈ c.exceptionTable.toList, False) (hst : l.stackTraces = false) {a1 : Int32} {a2 : Int32} {S : St} {res : TR} {H : Heap} {locs : List Loc} {ls : Array Slot}  (hd : Dy G S s H locs) (hl : lv_has ls 3 [(0, .ref (gR G 0)), (1, .int a1), (2, .int a2)]) (h : fX9_learnt a1 a2 S = some res) : W p l e (rmL 9 2 12) s m args below meth c H locs 0 0 (vx_MQ below (QTI G res) (XT G res) args s 2 12 (Ab G)) (F0 m 0 ls []) := by
  unfold fX9_learnt at h
  have hx := C.1.1
  have hb := C.1.2.1
  refine lv_aload_n hx hb dX9_learnt_0 rfl (lv_at hl 0 rfl) ?_
  refine lv_iload_n hx hb dX9_learnt_1 rfl (lv_at hl 1 rfl) ?_
  refine R_tVv C hd ht hst h (fun r0 hc => ccX9_needSinger l G hst  hc) kX9_160 rfl (by decide) (rfl : kd 0 = 9) hl.1 ⟨by decide, by decide⟩ rfl rfl (Nat.le_of_ble_eq_true rfl) dX9_learnt_2 ⟨by decide, by decide⟩ (by decide) (by decide) (fun x1 S H locs hd h => ?_)
  refine lv_aload_n hx hb dX9_learnt_5 rfl (lv_at hl 0 rfl) ?_
  refine lv_iload_n hx hb dX9_learnt_6 rfl (lv_at hl 2 rfl) ?_
  refine R_tVv C hd ht hst h (fun r0 hc => ccX9_needField l G hst  hc) kX9_129 rfl (by decide) (rfl : kd 0 = 9) hl.1 ⟨by decide, by decide⟩ rfl rfl (Nat.le_of_ble_eq_true rfl) dX9_learnt_7 ⟨by decide, by decide⟩ (by decide) (by decide) (fun x2 S H locs hd h => ?_)
  refine lv_aload_n hx hb dX9_learnt_10 rfl (lv_at hl 0 rfl) ?_
  refine lv_iconst (v := 1) hx hb dX9_learnt_11 (by decide) ?_
  refine lv_iload_n hx hb dX9_learnt_12 rfl (lv_at hl 1 rfl) ?_
  refine lv_ishl hx hb dX9_learnt_13 ?_
  refine lv_iload_n hx hb dX9_learnt_14 rfl (lv_at hl 2 rfl) ?_
  obtain ⟨x3, S1, hc, h⟩ := bd_some h
  refine R_cVi C hd (ccX9_behindHowMany l G  hc) kX9_210 rfl (by decide) (rfl : kd 0 = 9) hl.1 ⟨by decide, by decide⟩ rfl rfl (Nat.le_of_ble_eq_true rfl) dX9_learnt_15 ⟨by decide, by decide⟩ (fun H locs hd => ?_)
  generalize S1 = S at h hd
  exact R_tiret C hr hd h (by decide) (by decide) dX9_learnt_18
set_option maxRecDepth 20000 in
theorem ccX9_learnt (l : Launch) (G : Gt) (hst : l.stackTraces = false) {a1 : Int32} {a2 : Int32} {S : St} {res : TR}  (h : fX9_learnt a1 a2 S = some res) : vx_Met l yX9_learnt (wm yX9_learnt cX9_learnt 3 (some .int)) (rmL 9 2 12) (PcW G S [.ref (gR G 0), .int a1, .int a2]) (QTI G res) (XT G res) 2 12 (Ab G) := by
  refine vx_ofW (cc := cX9_learnt) (maxL := 3) (ret := (some .int)) (by decide) rfl ?_
  intro p e s m args below meth c s₁ B hml ht hv
  obtain ⟨rfl, hK, hP⟩ := hv
  have C : Cx p s m _ meth c cX9_learnt 3 RX9 G := ⟨⟨B.exec, B.bytes, hml, findClass_of_methodNamed B.named, fun w hw => atoms_spec (ws := wm yX9_learnt cX9_learnt 3 (some .int)) B.pre w (List.mem_cons_of_mem _ hw)⟩, B.notSynchronized, hK⟩
  have hl := lv_entry ([.ref (gR G 0), .int a1, .int a2]) (n := 3) (Nat.le_of_ble_eq_true rfl)
  rw [lg_entry_eq]
  generalize (lg_sl ([.ref (gR G 0), .int a1, .int a2]) ++ List.replicate (3 - (lg_sl ([.ref (gR G 0), .int a1, .int a2])).length) Slot.unset).toArray = ls at hl ⊢
  exact sfX9_learnt C B.returns ht hst  ⟨hP, va_S.rf⟩ hl h
def fX9_purse (a1 : Int32) (a2 : Int32) (S : St) : Option TR :=
  bt (fX9_needSinger a1 S) fun x1 S => bt (fX9_needHours a2 0 S) fun x2 S => gm S 0 3 8 fun q4 => bv (fX0_begin q4 37 S) fun S => bv (fX0_go a2 S) fun S => rd S 131 (8 + a1) fun x10 => tri x10 S
set_option maxHeartbeats 4000000 in
set_option maxRecDepth 20000 in
theorem sfX9_purse (C : Cx p s m args meth c cX9_purse 3 RX9 G) (hr : meth.sig.returnType = some .int) (ht : ∀ x ∈ c.exceptionTable.toList, False) (hst : l.stackTraces = false) {a1 : Int32} {a2 : Int32} {S : St} {res : TR} {H : Heap} {locs : List Loc} {ls : Array Slot}  (hd : Dy G S s H locs) (hl : lv_has ls 3 [(0, .ref (gR G 0)), (1, .int a1), (2, .int a2)]) (h : fX9_purse a1 a2 S = some res) : W p l e (rmL 8 2 12) s m args below meth c H locs 0 0 (vx_MQ below (QTI G res) (XT G res) args s 2 12 (Ab G)) (F0 m 0 ls []) := by
  unfold fX9_purse at h
  have hx := C.1.1
  have hb := C.1.2.1
  refine lv_aload_n hx hb dX9_purse_0 rfl (lv_at hl 0 rfl) ?_
  refine lv_iload_n hx hb dX9_purse_1 rfl (lv_at hl 1 rfl) ?_
  refine R_tVv C hd ht hst h (fun r0 hc => ccX9_needSinger l G hst  hc) kX9_160 rfl (by decide) (rfl : kd 0 = 9) hl.1 ⟨by decide, by decide⟩ rfl rfl (Nat.le_of_ble_eq_true rfl) dX9_purse_2 ⟨by decide, by decide⟩ (by decide) (by decide) (fun x1 S H locs hd h => ?_)
  refine lv_aload_n hx hb dX9_purse_5 rfl (lv_at hl 0 rfl) ?_
  refine lv_iload_n hx hb dX9_purse_6 rfl (lv_at hl 2 rfl) ?_
  refine lv_iconst (v := 0) hx hb dX9_purse_7 (by decide) ?_
  refine R_tVv C hd ht hst h (fun r0 hc => ccX9_needHours l G hst  hc) kX9_203 rfl (by decide) (rfl : kd 0 = 9) hl.1 ⟨by decide, by decide⟩ rfl rfl (Nat.le_of_ble_eq_true rfl) dX9_purse_8 ⟨by decide, by decide⟩ (by decide) (by decide) (fun x2 S H locs hd h => ?_)
  refine lv_aload_n hx hb dX9_purse_11 rfl (lv_at hl 0 rfl) ?_
  refine gX9_47 C hd (rfl : kd 0 = 9) (q := 130) rfl dX9_purse_12 (fun y3 => ?_)
  refine lv_aload_n hx hb dX9_purse_15 rfl (lv_at hl 0 rfl) ?_
  refine gX9_16 C hd (rfl : kd 0 = 9) h dX9_purse_16 (fun q4 kq4 h => ?_)
  refine lv_aload_n hx hb dX9_purse_19 rfl (lv_at hl 0 rfl) ?_
  refine gX9_35 C hd (rfl : kd 0 = 9) (q := 36) rfl dX9_purse_20 (fun y5 => ?_)
  refine gX9_111 C hd y5 (q := 37) rfl dX9_purse_23 (fun y6 => ?_)
  obtain ⟨S1, hc, h⟩ := bv_some h
  refine R_cVv C hd (ccX0_begin l G kq4 y6 hc) kX9_166 rfl (by decide) y3 hl.1 ⟨by decide, by decide⟩ rfl rfl (Nat.le_of_ble_eq_true rfl) dX9_purse_26 ⟨by decide, by decide⟩ (fun H locs hd => ?_)
  generalize S1 = S at h hd
  refine lv_aload_n hx hb dX9_purse_29 rfl (lv_at hl 0 rfl) ?_
  refine gX9_47 C hd (rfl : kd 0 = 9) (q := 130) rfl dX9_purse_30 (fun y7 => ?_)
  refine lv_iload_n hx hb dX9_purse_33 rfl (lv_at hl 2 rfl) ?_
  obtain ⟨S1, hc, h⟩ := bv_some h
  refine R_cVv C hd (ccX0_go l G  hc) kX9_183 rfl (by decide) y7 hl.1 ⟨by decide, by decide⟩ rfl rfl (Nat.le_of_ble_eq_true rfl) dX9_purse_34 ⟨by decide, by decide⟩ (fun H locs hd => ?_)
  generalize S1 = S at h hd
  refine lv_aload_n hx hb dX9_purse_37 rfl (lv_at hl 0 rfl) ?_
  refine gX9_47 C hd (rfl : kd 0 = 9) (q := 130) rfl dX9_purse_38 (fun y8 => ?_)
  refine gX9_186 C hd y8 (q := 131) rfl dX9_purse_41 (fun y9 => ?_)
  refine lv_bipush (v := 8) hx hb dX9_purse_44 (by decide) ?_
  refine lv_iload_n hx hb dX9_purse_46 rfl (lv_at hl 1 rfl) ?_
  refine lv_iadd hx hb dX9_purse_47 ?_
  refine R_iald C hd y9 h dX9_purse_48 (fun x10 h => ?_)
  exact R_tiret C hr hd h (by decide) (by decide) dX9_purse_49
set_option maxRecDepth 20000 in
theorem ccX9_purse (l : Launch) (G : Gt) (hst : l.stackTraces = false) {a1 : Int32} {a2 : Int32} {S : St} {res : TR}  (h : fX9_purse a1 a2 S = some res) : vx_Met l yX9_purse (wm yX9_purse cX9_purse 3 (some .int)) (rmL 8 2 12) (PcW G S [.ref (gR G 0), .int a1, .int a2]) (QTI G res) (XT G res) 2 12 (Ab G) := by
  refine vx_ofW (cc := cX9_purse) (maxL := 3) (ret := (some .int)) (by decide) rfl ?_
  intro p e s m args below meth c s₁ B hml ht hv
  obtain ⟨rfl, hK, hP⟩ := hv
  have C : Cx p s m _ meth c cX9_purse 3 RX9 G := ⟨⟨B.exec, B.bytes, hml, findClass_of_methodNamed B.named, fun w hw => atoms_spec (ws := wm yX9_purse cX9_purse 3 (some .int)) B.pre w (List.mem_cons_of_mem _ hw)⟩, B.notSynchronized, hK⟩
  have hl := lv_entry ([.ref (gR G 0), .int a1, .int a2]) (n := 3) (Nat.le_of_ble_eq_true rfl)
  rw [lg_entry_eq]
  generalize (lg_sl ([.ref (gR G 0), .int a1, .int a2]) ++ List.replicate (3 - (lg_sl ([.ref (gR G 0), .int a1, .int a2])).length) Slot.unset).toArray = ls at hl ⊢
  exact sfX9_purse C B.returns ht hst  ⟨hP, va_S.rf⟩ hl h
def fX9_needWhat (a1 : Int32) (a2 : Int32) (S : St) : Option TR :=
  (if a1 < 0 then trx 1 S else (if a1 ≤ a2 then tri 0 S else trx 1 S))
set_option maxHeartbeats 4000000 in
set_option maxRecDepth 20000 in
theorem sfX9_needWhat (C : Cx p s m args meth c cX9_needWhat 3 RX9 G) (hr : meth.sig.returnType = none) (ht : ∀ x ∈ c.exceptionTable.toList, False) (hst : l.stackTraces = false) {a1 : Int32} {a2 : Int32} {S : St} {res : TR} {H : Heap} {locs : List Loc} {ls : Array Slot}  (hd : Dy G S s H locs) (hl : lv_has ls 3 [(0, .ref (gR G 0)), (1, .int a1), (2, .int a2)]) (h : fX9_needWhat a1 a2 S = some res) : W p l e (rmL 6 1 6) s m args below meth c H locs 0 0 (vx_MQ below (QTV G res) (XT G res) args s 1 6 (Ab G)) (F0 m 0 ls []) := by
  unfold fX9_needWhat at h
  have hx := C.1.1
  have hb := C.1.2.1
  refine lv_iload_n hx hb dX9_needWhat_0 rfl (lv_at hl 1 rfl) ?_
  refine lv_if_lt (tgt := 9) hx hb dX9_needWhat_1 (by decide) (fun c1 => ?_) (fun c1 => ?_)
  · rw [if_pos c1] at h
    exact R_throwW C hd h ht hst hl.1 ktX9_1_128 (List.mem_of_getElem? (i := 28) rfl) (Nat.le_of_ble_eq_true rfl) (Nat.le_of_ble_eq_true rfl) (Nat.le_of_ble_eq_true rfl) (Nat.le_of_ble_eq_true rfl) (Nat.le_of_ble_eq_true rfl) (Nat.le_of_ble_eq_true rfl) dX9_needWhat_9 dX9_needWhat_12 dX9_needWhat_13 dX9_needWhat_16 dX9_needWhat_19
  · rw [if_neg c1] at h
    refine lv_iload_n hx hb dX9_needWhat_4 rfl (lv_at hl 1 rfl) ?_
    refine lv_iload_n hx hb dX9_needWhat_5 rfl (lv_at hl 2 rfl) ?_
    refine lv_icmp_le (tgt := 20) hx hb dX9_needWhat_6 (by decide) (fun c2 => ?_) (fun c2 => ?_)
    · rw [if_pos c2] at h
      exact R_tvret C hr hd h (by decide) (by decide) dX9_needWhat_20
    · rw [if_neg c2] at h
      exact R_throwW C hd h ht hst hl.1 ktX9_1_128 (List.mem_of_getElem? (i := 28) rfl) (Nat.le_of_ble_eq_true rfl) (Nat.le_of_ble_eq_true rfl) (Nat.le_of_ble_eq_true rfl) (Nat.le_of_ble_eq_true rfl) (Nat.le_of_ble_eq_true rfl) (Nat.le_of_ble_eq_true rfl) dX9_needWhat_9 dX9_needWhat_12 dX9_needWhat_13 dX9_needWhat_16 dX9_needWhat_19
set_option maxRecDepth 20000 in
theorem ccX9_needWhat (l : Launch) (G : Gt) (hst : l.stackTraces = false) {a1 : Int32} {a2 : Int32} {S : St} {res : TR}  (h : fX9_needWhat a1 a2 S = some res) : vx_Met l yX9_needWhat (wm yX9_needWhat cX9_needWhat 3 (none)) (rmL 6 1 6) (PcW G S [.ref (gR G 0), .int a1, .int a2]) (QTV G res) (XT G res) 1 6 (Ab G) := by
  refine vx_ofW (cc := cX9_needWhat) (maxL := 3) (ret := none) (by decide) rfl ?_
  intro p e s m args below meth c s₁ B hml ht hv
  obtain ⟨rfl, hK, hP⟩ := hv
  have C : Cx p s m _ meth c cX9_needWhat 3 RX9 G := ⟨⟨B.exec, B.bytes, hml, findClass_of_methodNamed B.named, fun w hw => atoms_spec (ws := wm yX9_needWhat cX9_needWhat 3 (none)) B.pre w (List.mem_cons_of_mem _ hw)⟩, B.notSynchronized, hK⟩
  have hl := lv_entry ([.ref (gR G 0), .int a1, .int a2]) (n := 3) (Nat.le_of_ble_eq_true rfl)
  rw [lg_entry_eq]
  generalize (lg_sl ([.ref (gR G 0), .int a1, .int a2]) ++ List.replicate (3 - (lg_sl ([.ref (gR G 0), .int a1, .int a2])).length) Slot.unset).toArray = ls at hl ⊢
  exact sfX9_needWhat C B.returns ht hst  ⟨hP, va_S.rf⟩ hl h
def fX9_trespasses (a1 : Int32) (a2 : Int32) (a3 : Int32) (S : St) : Option TR :=
  bt (fX9_needSinger a1 S) fun x1 S => bt (fX9_needWhat a3 1 S) fun x2 S => bt (fX9_needHours a2 0 S) fun x3 S => gm S 0 3 8 fun q5 => bv (fX0_begin q5 37 S) fun S => bv (fX0_go a2 S) fun S => (if a3 = 0 then rd S 134 a1 fun x14 => tri x14 S else bd (fX0_trespassesAgainst a1 S) fun x11 S => tri x11 S)
set_option maxHeartbeats 4000000 in
set_option maxRecDepth 20000 in
theorem sfX9_trespasses (C : Cx p s m args meth c cX9_trespasses 4 RX9 G) (hr : meth.sig.returnType = some .int) (ht : ∀ x ∈ c.exceptionTable.toList, False) (hst : l.stackTraces = false) {a1 : Int32} {a2 : Int32} {a3 : Int32} {S : St} {res : TR} {H : Heap} {locs : List Loc} {ls : Array Slot}  (hd : Dy G S s H locs) (hl : lv_has ls 4 [(0, .ref (gR G 0)), (1, .int a1), (2, .int a2), (3, .int a3)]) (h : fX9_trespasses a1 a2 a3 S = some res) : W p l e (rmL 8 3 18) s m args below meth c H locs 0 0 (vx_MQ below (QTI G res) (XT G res) args s 3 18 (Ab G)) (F0 m 0 ls []) := by
  unfold fX9_trespasses at h
  have hx := C.1.1
  have hb := C.1.2.1
  refine lv_aload_n hx hb dX9_trespasses_0 rfl (lv_at hl 0 rfl) ?_
  refine lv_iload_n hx hb dX9_trespasses_1 rfl (lv_at hl 1 rfl) ?_
  refine R_tVv C hd ht hst h (fun r0 hc => ccX9_needSinger l G hst  hc) kX9_160 rfl (by decide) (rfl : kd 0 = 9) hl.1 ⟨by decide, by decide⟩ rfl rfl (Nat.le_of_ble_eq_true rfl) dX9_trespasses_2 ⟨by decide, by decide⟩ (by decide) (by decide) (fun x1 S H locs hd h => ?_)
  refine lv_aload_n hx hb dX9_trespasses_5 rfl (lv_at hl 0 rfl) ?_
  refine lv_iload_n hx hb dX9_trespasses_6 rfl (lv_at hl 3 rfl) ?_
  refine lv_iconst (v := 1) hx hb dX9_trespasses_7 (by decide) ?_
  refine R_tVv C hd ht hst h (fun r0 hc => ccX9_needWhat l G hst  hc) kX9_217 rfl (by decide) (rfl : kd 0 = 9) hl.1 ⟨by decide, by decide⟩ rfl rfl (Nat.le_of_ble_eq_true rfl) dX9_trespasses_8 ⟨by decide, by decide⟩ (by decide) (by decide) (fun x2 S H locs hd h => ?_)
  refine lv_aload_n hx hb dX9_trespasses_11 rfl (lv_at hl 0 rfl) ?_
  refine lv_iload_n hx hb dX9_trespasses_12 rfl (lv_at hl 2 rfl) ?_
  refine lv_iconst (v := 0) hx hb dX9_trespasses_13 (by decide) ?_
  refine R_tVv C hd ht hst h (fun r0 hc => ccX9_needHours l G hst  hc) kX9_203 rfl (by decide) (rfl : kd 0 = 9) hl.1 ⟨by decide, by decide⟩ rfl rfl (Nat.le_of_ble_eq_true rfl) dX9_trespasses_14 ⟨by decide, by decide⟩ (by decide) (by decide) (fun x3 S H locs hd h => ?_)
  refine lv_aload_n hx hb dX9_trespasses_17 rfl (lv_at hl 0 rfl) ?_
  refine gX9_47 C hd (rfl : kd 0 = 9) (q := 130) rfl dX9_trespasses_18 (fun y4 => ?_)
  refine lv_aload_n hx hb dX9_trespasses_21 rfl (lv_at hl 0 rfl) ?_
  refine gX9_16 C hd (rfl : kd 0 = 9) h dX9_trespasses_22 (fun q5 kq5 h => ?_)
  refine lv_aload_n hx hb dX9_trespasses_25 rfl (lv_at hl 0 rfl) ?_
  refine gX9_35 C hd (rfl : kd 0 = 9) (q := 36) rfl dX9_trespasses_26 (fun y6 => ?_)
  refine gX9_111 C hd y6 (q := 37) rfl dX9_trespasses_29 (fun y7 => ?_)
  obtain ⟨S1, hc, h⟩ := bv_some h
  refine R_cVv C hd (ccX0_begin l G kq5 y7 hc) kX9_166 rfl (by decide) y4 hl.1 ⟨by decide, by decide⟩ rfl rfl (Nat.le_of_ble_eq_true rfl) dX9_trespasses_32 ⟨by decide, by decide⟩ (fun H locs hd => ?_)
  generalize S1 = S at h hd
  refine lv_aload_n hx hb dX9_trespasses_35 rfl (lv_at hl 0 rfl) ?_
  refine gX9_47 C hd (rfl : kd 0 = 9) (q := 130) rfl dX9_trespasses_36 (fun y8 => ?_)
  refine lv_iload_n hx hb dX9_trespasses_39 rfl (lv_at hl 2 rfl) ?_
  obtain ⟨S1, hc, h⟩ := bv_some h
  refine R_cVv C hd (ccX0_go l G  hc) kX9_183 rfl (by decide) y8 hl.1 ⟨by decide, by decide⟩ rfl rfl (Nat.le_of_ble_eq_true rfl) dX9_trespasses_40 ⟨by decide, by decide⟩ (fun H locs hd => ?_)
  generalize S1 = S at h hd
  refine lv_iload_n hx hb dX9_trespasses_43 rfl (lv_at hl 3 rfl) ?_
  refine lv_if_ne (tgt := 59) hx hb dX9_trespasses_44 (by decide) (fun c9 => ?_) (fun c9 => ?_)
  · rw [if_neg c9] at h
    refine lv_aload_n hx hb dX9_trespasses_59 rfl (lv_at hl 0 rfl) ?_
    refine gX9_47 C hd (rfl : kd 0 = 9) (q := 130) rfl dX9_trespasses_60 (fun y10 => ?_)
    refine lv_iload_n hx hb dX9_trespasses_63 rfl (lv_at hl 1 rfl) ?_
    obtain ⟨x11, S1, hc, h⟩ := bd_some h
    refine R_cVi C hd (ccX0_trespassesAgainst l G  hc) kX9_223 rfl (by decide) y10 hl.1 ⟨by decide, by decide⟩ rfl rfl (Nat.le_of_ble_eq_true rfl) dX9_trespasses_64 ⟨by decide, by decide⟩ (fun H locs hd => ?_)
    generalize S1 = S at h hd
    exact R_tiret C hr hd h (by decide) (by decide) dX9_trespasses_67
  · rw [if_pos c9] at h
    refine lv_aload_n hx hb dX9_trespasses_47 rfl (lv_at hl 0 rfl) ?_
    refine gX9_47 C hd (rfl : kd 0 = 9) (q := 130) rfl dX9_trespasses_48 (fun y12 => ?_)
    refine gX9_220 C hd y12 (q := 134) rfl dX9_trespasses_51 (fun y13 => ?_)
    refine lv_iload_n hx hb dX9_trespasses_54 rfl (lv_at hl 1 rfl) ?_
    refine R_iald C hd y13 h dX9_trespasses_55 (fun x14 h => ?_)
    refine lv_goto (tgt := 67) hx hb dX9_trespasses_56 (by decide) ?_
    exact R_tiret C hr hd h (by decide) (by decide) dX9_trespasses_67
set_option maxRecDepth 20000 in
theorem ccX9_trespasses (l : Launch) (G : Gt) (hst : l.stackTraces = false) {a1 : Int32} {a2 : Int32} {a3 : Int32} {S : St} {res : TR}  (h : fX9_trespasses a1 a2 a3 S = some res) : vx_Met l yX9_trespasses (wm yX9_trespasses cX9_trespasses 4 (some .int)) (rmL 8 3 18) (PcW G S [.ref (gR G 0), .int a1, .int a2, .int a3]) (QTI G res) (XT G res) 3 18 (Ab G) := by
  refine vx_ofW (cc := cX9_trespasses) (maxL := 4) (ret := (some .int)) (by decide) rfl ?_
  intro p e s m args below meth c s₁ B hml ht hv
  obtain ⟨rfl, hK, hP⟩ := hv
  have C : Cx p s m _ meth c cX9_trespasses 4 RX9 G := ⟨⟨B.exec, B.bytes, hml, findClass_of_methodNamed B.named, fun w hw => atoms_spec (ws := wm yX9_trespasses cX9_trespasses 4 (some .int)) B.pre w (List.mem_cons_of_mem _ hw)⟩, B.notSynchronized, hK⟩
  have hl := lv_entry ([.ref (gR G 0), .int a1, .int a2, .int a3]) (n := 4) (Nat.le_of_ble_eq_true rfl)
  rw [lg_entry_eq]
  generalize (lg_sl ([.ref (gR G 0), .int a1, .int a2, .int a3]) ++ List.replicate (4 - (lg_sl ([.ref (gR G 0), .int a1, .int a2, .int a3])).length) Slot.unset).toArray = ls at hl ⊢
  exact sfX9_trespasses C B.returns ht hst  ⟨hP, va_S.rf⟩ hl h
def fX9_allKnow (a1 : Int32) (S : St) : Option TR :=
  bt (fX9_needField a1 S) fun x1 S => gm S 0 3 8 fun q2 => bd (fX9_behindHowMany (((1 : Int32) <<< ((S q2 2) &&& 31)) - 1) a1 S) fun x3 S => tri x3 S
set_option maxHeartbeats 4000000 in
set_option maxRecDepth 20000 in
theorem sfX9_allKnow (C : Cx p s m args meth c cX9_allKnow 2 RX9 G) (hr : meth.sig.returnType = some .int) (ht : ∀ x ∈ c.exceptionTable.toList, False) (hst : l.stackTraces = false) {a1 : Int32} {S : St} {res : TR} {H : Heap} {locs : List Loc} {ls : Array Slot}  (hd : Dy G S s H locs) (hl : lv_has ls 2 [(0, .ref (gR G 0)), (1, .int a1)]) (h : fX9_allKnow a1 S = some res) : W p l e (rmL 9 1 6) s m args below meth c H locs 0 0 (vx_MQ below (QTI G res) (XT G res) args s 1 6 (Ab G)) (F0 m 0 ls []) := by
  unfold fX9_allKnow at h
  have hx := C.1.1
  have hb := C.1.2.1
  refine lv_aload_n hx hb dX9_allKnow_0 rfl (lv_at hl 0 rfl) ?_
  refine lv_iload_n hx hb dX9_allKnow_1 rfl (lv_at hl 1 rfl) ?_
  refine R_tVv C hd ht hst h (fun r0 hc => ccX9_needField l G hst  hc) kX9_129 rfl (by decide) (rfl : kd 0 = 9) hl.1 ⟨by decide, by decide⟩ rfl rfl (Nat.le_of_ble_eq_true rfl) dX9_allKnow_2 ⟨by decide, by decide⟩ (by decide) (by decide) (fun x1 S H locs hd h => ?_)
  refine lv_aload_n hx hb dX9_allKnow_5 rfl (lv_at hl 0 rfl) ?_
  refine lv_iconst (v := 1) hx hb dX9_allKnow_6 (by decide) ?_
  refine lv_aload_n hx hb dX9_allKnow_7 rfl (lv_at hl 0 rfl) ?_
  refine gX9_16 C hd (rfl : kd 0 = 9) h dX9_allKnow_8 (fun q2 kq2 h => ?_)
  refine gX9_108 C hd kq2 dX9_allKnow_11 ?_
  refine lv_ishl hx hb dX9_allKnow_14 ?_
  refine lv_iconst (v := 1) hx hb dX9_allKnow_15 (by decide) ?_
  refine lv_isub hx hb dX9_allKnow_16 ?_
  refine lv_iload_n hx hb dX9_allKnow_17 rfl (lv_at hl 1 rfl) ?_
  obtain ⟨x3, S1, hc, h⟩ := bd_some h
  refine R_cVi C hd (ccX9_behindHowMany l G  hc) kX9_210 rfl (by decide) (rfl : kd 0 = 9) hl.1 ⟨by decide, by decide⟩ rfl rfl (Nat.le_of_ble_eq_true rfl) dX9_allKnow_18 ⟨by decide, by decide⟩ (fun H locs hd => ?_)
  generalize S1 = S at h hd
  exact R_tiret C hr hd h (by decide) (by decide) dX9_allKnow_21
set_option maxRecDepth 20000 in
theorem ccX9_allKnow (l : Launch) (G : Gt) (hst : l.stackTraces = false) {a1 : Int32} {S : St} {res : TR}  (h : fX9_allKnow a1 S = some res) : vx_Met l yX9_allKnow (wm yX9_allKnow cX9_allKnow 2 (some .int)) (rmL 9 1 6) (PcW G S [.ref (gR G 0), .int a1]) (QTI G res) (XT G res) 1 6 (Ab G) := by
  refine vx_ofW (cc := cX9_allKnow) (maxL := 2) (ret := (some .int)) (by decide) rfl ?_
  intro p e s m args below meth c s₁ B hml ht hv
  obtain ⟨rfl, hK, hP⟩ := hv
  have C : Cx p s m _ meth c cX9_allKnow 2 RX9 G := ⟨⟨B.exec, B.bytes, hml, findClass_of_methodNamed B.named, fun w hw => atoms_spec (ws := wm yX9_allKnow cX9_allKnow 2 (some .int)) B.pre w (List.mem_cons_of_mem _ hw)⟩, B.notSynchronized, hK⟩
  have hl := lv_entry ([.ref (gR G 0), .int a1]) (n := 2) (Nat.le_of_ble_eq_true rfl)
  rw [lg_entry_eq]
  generalize (lg_sl ([.ref (gR G 0), .int a1]) ++ List.replicate (2 - (lg_sl ([.ref (gR G 0), .int a1])).length) Slot.unset).toArray = ls at hl ⊢
  exact sfX9_allKnow C B.returns ht hst  ⟨hP, va_S.rf⟩ hl h
def fX9_lost (a1 : Int32) (S : St) : Option TR :=
  bt (fX9_needSinger a1 S) fun x1 S => gm S 0 3 8 fun q3 => bv (fX0_begin q3 37 S) fun S => bd (fX0_knownByOthers a1 S) fun x7 S => bv (fX0_go 30 S) fun S => bd (fX0_knownByOthers a1 S) fun x10 S => tri (x10 &&& (x7 ^^^ (-1))) S
set_option maxHeartbeats 4000000 in
set_option maxRecDepth 20000 in
theorem sfX9_lost (C : Cx p s m args meth c cX9_lost 3 RX9 G) (hr : meth.sig.returnType = some .int) (ht : ∀ x ∈ c.exceptionTable.toList, False) (hst : l.stackTraces = false) {a1 : Int32} {S : St} {res : TR} {H : Heap} {locs : List Loc} {ls : Array Slot}  (hd : Dy G S s H locs) (hl : lv_has ls 3 [(0, .ref (gR G 0)), (1, .int a1)]) (h : fX9_lost a1 S = some res) : W p l e (rmL 8 1 6) s m args below meth c H locs 0 0 (vx_MQ below (QTI G res) (XT G res) args s 1 6 (Ab G)) (F0 m 0 ls []) := by
  unfold fX9_lost at h
  have hx := C.1.1
  have hb := C.1.2.1
  refine lv_aload_n hx hb dX9_lost_0 rfl (lv_at hl 0 rfl) ?_
  refine lv_iload_n hx hb dX9_lost_1 rfl (lv_at hl 1 rfl) ?_
  refine R_tVv C hd ht hst h (fun r0 hc => ccX9_needSinger l G hst  hc) kX9_160 rfl (by decide) (rfl : kd 0 = 9) hl.1 ⟨by decide, by decide⟩ rfl rfl (Nat.le_of_ble_eq_true rfl) dX9_lost_2 ⟨by decide, by decide⟩ (by decide) (by decide) (fun x1 S H locs hd h => ?_)
  refine lv_aload_n hx hb dX9_lost_5 rfl (lv_at hl 0 rfl) ?_
  refine gX9_47 C hd (rfl : kd 0 = 9) (q := 130) rfl dX9_lost_6 (fun y2 => ?_)
  refine lv_aload_n hx hb dX9_lost_9 rfl (lv_at hl 0 rfl) ?_
  refine gX9_16 C hd (rfl : kd 0 = 9) h dX9_lost_10 (fun q3 kq3 h => ?_)
  refine lv_aload_n hx hb dX9_lost_13 rfl (lv_at hl 0 rfl) ?_
  refine gX9_35 C hd (rfl : kd 0 = 9) (q := 36) rfl dX9_lost_14 (fun y4 => ?_)
  refine gX9_111 C hd y4 (q := 37) rfl dX9_lost_17 (fun y5 => ?_)
  obtain ⟨S1, hc, h⟩ := bv_some h
  refine R_cVv C hd (ccX0_begin l G kq3 y5 hc) kX9_166 rfl (by decide) y2 hl.1 ⟨by decide, by decide⟩ rfl rfl (Nat.le_of_ble_eq_true rfl) dX9_lost_20 ⟨by decide, by decide⟩ (fun H locs hd => ?_)
  generalize S1 = S at h hd
  refine lv_aload_n hx hb dX9_lost_23 rfl (lv_at hl 0 rfl) ?_
  refine gX9_47 C hd (rfl : kd 0 = 9) (q := 130) rfl dX9_lost_24 (fun y6 => ?_)
  refine lv_iload_n hx hb dX9_lost_27 rfl (lv_at hl 1 rfl) ?_
  obtain ⟨x7, S1, hc, h⟩ := bd_some h
  refine R_cVi C hd (ccX0_knownByOthers l G  hc) kX9_226 rfl (by decide) y6 hl.1 ⟨by decide, by decide⟩ rfl rfl (Nat.le_of_ble_eq_true rfl) dX9_lost_28 ⟨by decide, by decide⟩ (fun H locs hd => ?_)
  generalize S1 = S at h hd
  refine lv_istore_n (lv' := [(2, .int x7), (0, .ref (gR G 0)), (1, .int a1)]) hx hb dX9_lost_31 rfl hl (by decide) rfl (fun ls hl => ?_)
  refine lv_aload_n hx hb dX9_lost_32 rfl (lv_at hl 1 rfl) ?_
  refine gX9_47 C hd (rfl : kd 0 = 9) (q := 130) rfl dX9_lost_33 (fun y8 => ?_)
  refine lv_bipush (v := 30) hx hb dX9_lost_36 (by decide) ?_
  obtain ⟨S1, hc, h⟩ := bv_some h
  refine R_cVv C hd (ccX0_go l G  hc) kX9_183 rfl (by decide) y8 hl.1 ⟨by decide, by decide⟩ rfl rfl (Nat.le_of_ble_eq_true rfl) dX9_lost_38 ⟨by decide, by decide⟩ (fun H locs hd => ?_)
  generalize S1 = S at h hd
  refine lv_aload_n hx hb dX9_lost_41 rfl (lv_at hl 1 rfl) ?_
  refine gX9_47 C hd (rfl : kd 0 = 9) (q := 130) rfl dX9_lost_42 (fun y9 => ?_)
  refine lv_iload_n hx hb dX9_lost_45 rfl (lv_at hl 2 rfl) ?_
  obtain ⟨x10, S1, hc, h⟩ := bd_some h
  refine R_cVi C hd (ccX0_knownByOthers l G  hc) kX9_226 rfl (by decide) y9 hl.1 ⟨by decide, by decide⟩ rfl rfl (Nat.le_of_ble_eq_true rfl) dX9_lost_46 ⟨by decide, by decide⟩ (fun H locs hd => ?_)
  generalize S1 = S at h hd
  refine lv_iload_n hx hb dX9_lost_49 rfl (lv_at hl 0 rfl) ?_
  refine lv_iconst (v := -1) hx hb dX9_lost_50 (by decide) ?_
  refine lv_ixor hx hb dX9_lost_51 ?_
  refine lv_iand hx hb dX9_lost_52 ?_
  exact R_tiret C hr hd h (by decide) (by decide) dX9_lost_53
set_option maxRecDepth 20000 in
theorem ccX9_lost (l : Launch) (G : Gt) (hst : l.stackTraces = false) {a1 : Int32} {S : St} {res : TR}  (h : fX9_lost a1 S = some res) : vx_Met l yX9_lost (wm yX9_lost cX9_lost 3 (some .int)) (rmL 8 1 6) (PcW G S [.ref (gR G 0), .int a1]) (QTI G res) (XT G res) 1 6 (Ab G) := by
  refine vx_ofW (cc := cX9_lost) (maxL := 3) (ret := (some .int)) (by decide) rfl ?_
  intro p e s m args below meth c s₁ B hml ht hv
  obtain ⟨rfl, hK, hP⟩ := hv
  have C : Cx p s m _ meth c cX9_lost 3 RX9 G := ⟨⟨B.exec, B.bytes, hml, findClass_of_methodNamed B.named, fun w hw => atoms_spec (ws := wm yX9_lost cX9_lost 3 (some .int)) B.pre w (List.mem_cons_of_mem _ hw)⟩, B.notSynchronized, hK⟩
  have hl := lv_entry ([.ref (gR G 0), .int a1]) (n := 3) (Nat.le_of_ble_eq_true rfl)
  rw [lg_entry_eq]
  generalize (lg_sl ([.ref (gR G 0), .int a1]) ++ List.replicate (3 - (lg_sl ([.ref (gR G 0), .int a1])).length) Slot.unset).toArray = ls at hl ⊢
  exact sfX9_lost C B.returns ht hst  ⟨hP, va_S.rf⟩ hl h
def fX9_needed (a1 : Int32) (a2 : Int32) (a3 : Int32) (S : St) : Option TR :=
  bt (fX9_needSinger a1 S) fun x1 S => bt (fX9_needField a2 S) fun x2 S => bt (fX9_needHours a3 1 S) fun x3 S => rd S 37 (98 + a2) fun x6 => (if x6 = (-1) then tri 0 S else (if x6 = a1 then tri 0 S else gm S 0 3 8 fun q10 => bv (fX0_begin q10 37 S) fun S => vl ((14 + (a1 * 8)) + a2) fun x13 => wr S 131 x13 99 fun S => bv (fX0_go a3 S) fun S => rd S 131 x13 fun x19 => tri (99 - x19) S))
set_option maxHeartbeats 4000000 in
set_option maxRecDepth 20000 in
theorem sfX9_needed (C : Cx p s m args meth c cX9_needed 6 RX9 G) (hr : meth.sig.returnType = some .int) (ht : ∀ x ∈ c.exceptionTable.toList, False) (hst : l.stackTraces = false) {a1 : Int32} {a2 : Int32} {a3 : Int32} {S : St} {res : TR} {H : Heap} {locs : List Loc} {ls : Array Slot}  (hd : Dy G S s H locs) (hl : lv_has ls 6 [(0, .ref (gR G 0)), (1, .int a1), (2, .int a2), (3, .int a3)]) (h : fX9_needed a1 a2 a3 S = some res) : W p l e (rmL 8 3 18) s m args below meth c H locs 0 0 (vx_MQ below (QTI G res) (XT G res) args s 3 18 (Ab G)) (F0 m 0 ls []) := by
  unfold fX9_needed at h
  have hx := C.1.1
  have hb := C.1.2.1
  refine lv_aload_n hx hb dX9_needed_0 rfl (lv_at hl 0 rfl) ?_
  refine lv_iload_n hx hb dX9_needed_1 rfl (lv_at hl 1 rfl) ?_
  refine R_tVv C hd ht hst h (fun r0 hc => ccX9_needSinger l G hst  hc) kX9_160 rfl (by decide) (rfl : kd 0 = 9) hl.1 ⟨by decide, by decide⟩ rfl rfl (Nat.le_of_ble_eq_true rfl) dX9_needed_2 ⟨by decide, by decide⟩ (by decide) (by decide) (fun x1 S H locs hd h => ?_)
  refine lv_aload_n hx hb dX9_needed_5 rfl (lv_at hl 0 rfl) ?_
  refine lv_iload_n hx hb dX9_needed_6 rfl (lv_at hl 2 rfl) ?_
  refine R_tVv C hd ht hst h (fun r0 hc => ccX9_needField l G hst  hc) kX9_129 rfl (by decide) (rfl : kd 0 = 9) hl.1 ⟨by decide, by decide⟩ rfl rfl (Nat.le_of_ble_eq_true rfl) dX9_needed_7 ⟨by decide, by decide⟩ (by decide) (by decide) (fun x2 S H locs hd h => ?_)
  refine lv_aload_n hx hb dX9_needed_10 rfl (lv_at hl 0 rfl) ?_
  refine lv_iload_n hx hb dX9_needed_11 rfl (lv_at hl 3 rfl) ?_
  refine lv_iconst (v := 1) hx hb dX9_needed_12 (by decide) ?_
  refine R_tVv C hd ht hst h (fun r0 hc => ccX9_needHours l G hst  hc) kX9_203 rfl (by decide) (rfl : kd 0 = 9) hl.1 ⟨by decide, by decide⟩ rfl rfl (Nat.le_of_ble_eq_true rfl) dX9_needed_13 ⟨by decide, by decide⟩ (by decide) (by decide) (fun x3 S H locs hd h => ?_)
  refine lv_aload_n hx hb dX9_needed_16 rfl (lv_at hl 0 rfl) ?_
  refine gX9_35 C hd (rfl : kd 0 = 9) (q := 36) rfl dX9_needed_17 (fun y4 => ?_)
  refine gX9_111 C hd y4 (q := 37) rfl dX9_needed_20 (fun y5 => ?_)
  refine lv_bipush (v := 98) hx hb dX9_needed_23 (by decide) ?_
  refine lv_iload_n hx hb dX9_needed_25 rfl (lv_at hl 2 rfl) ?_
  refine lv_iadd hx hb dX9_needed_26 ?_
  refine R_iald C hd y5 h dX9_needed_27 (fun x6 h => ?_)
  refine lv_istore (lv' := [(4, .int x6), (0, .ref (gR G 0)), (1, .int a1), (2, .int a2), (3, .int a3)]) hx hb dX9_needed_28 hl (by decide) rfl (fun ls hl => ?_)
  refine lv_iload hx hb dX9_needed_30 (lv_at hl 0 rfl) ?_
  refine lv_iconst (v := -1) hx hb dX9_needed_32 (by decide) ?_
  refine lv_icmp_eq (tgt := 42) hx hb dX9_needed_33 (by decide) (fun c7 => ?_) (fun c7 => ?_)
  · rw [if_pos c7] at h
    refine lv_iconst (v := 0) hx hb dX9_needed_42 (by decide) ?_
    exact R_tiret C hr hd h (by decide) (by decide) dX9_needed_43
  · rw [if_neg c7] at h
    refine lv_iload hx hb dX9_needed_36 (lv_at hl 0 rfl) ?_
    refine lv_iload_n hx hb dX9_needed_38 rfl (lv_at hl 2 rfl) ?_
    refine lv_icmp_ne (tgt := 44) hx hb dX9_needed_39 (by decide) (fun c8 => ?_) (fun c8 => ?_)
    · rw [if_neg c8] at h
      refine lv_aload_n hx hb dX9_needed_44 rfl (lv_at hl 1 rfl) ?_
      refine gX9_47 C hd (rfl : kd 0 = 9) (q := 130) rfl dX9_needed_45 (fun y9 => ?_)
      refine lv_aload_n hx hb dX9_needed_48 rfl (lv_at hl 1 rfl) ?_
      refine gX9_16 C hd (rfl : kd 0 = 9) h dX9_needed_49 (fun q10 kq10 h => ?_)
      refine lv_aload_n hx hb dX9_needed_52 rfl (lv_at hl 1 rfl) ?_
      refine gX9_35 C hd (rfl : kd 0 = 9) (q := 36) rfl dX9_needed_53 (fun y11 => ?_)
      refine gX9_111 C hd y11 (q := 37) rfl dX9_needed_56 (fun y12 => ?_)
      obtain ⟨S1, hc, h⟩ := bv_some h
      refine R_cVv C hd (ccX0_begin l G kq10 y12 hc) kX9_166 rfl (by decide) y9 hl.1 ⟨by decide, by decide⟩ rfl rfl (Nat.le_of_ble_eq_true rfl) dX9_needed_59 ⟨by decide, by decide⟩ (fun H locs hd => ?_)
      generalize S1 = S at h hd
      refine lv_bipush (v := 14) hx hb dX9_needed_62 (by decide) ?_
      refine lv_iload_n hx hb dX9_needed_64 rfl (lv_at hl 2 rfl) ?_
      refine lv_bipush (v := 8) hx hb dX9_needed_65 (by decide) ?_
      refine lv_imul hx hb dX9_needed_67 ?_
      refine lv_iadd hx hb dX9_needed_68 ?_
      refine lv_iload_n hx hb dX9_needed_69 rfl (lv_at hl 3 rfl) ?_
      refine lv_iadd hx hb dX9_needed_70 ?_
      refine R_vl h (fun x13 h => ?_)
      refine lv_istore (lv' := [(5, .int x13), (4, .int x6), (0, .ref (gR G 0)), (1, .int a1), (2, .int a2), (3, .int a3)]) hx hb dX9_needed_71 hl (by decide) rfl (fun ls hl => ?_)
      refine lv_aload_n hx hb dX9_needed_73 rfl (lv_at hl 2 rfl) ?_
      refine gX9_47 C hd (rfl : kd 0 = 9) (q := 130) rfl dX9_needed_74 (fun y14 => ?_)
      refine gX9_186 C hd y14 (q := 131) rfl dX9_needed_77 (fun y15 => ?_)
      refine lv_iload hx hb dX9_needed_80 (lv_at hl 0 rfl) ?_
      refine lv_bipush (v := 99) hx hb dX9_needed_82 (by decide) ?_
      refine R_iast C hd y15 h dX9_needed_84 (fun S H locs hd h => ?_)
      refine lv_aload_n hx hb dX9_needed_85 rfl (lv_at hl 2 rfl) ?_
      refine gX9_47 C hd (rfl : kd 0 = 9) (q := 130) rfl dX9_needed_86 (fun y16 => ?_)
      refine lv_iload_n hx hb dX9_needed_89 rfl (lv_at hl 5 rfl) ?_
      obtain ⟨S1, hc, h⟩ := bv_some h
      refine R_cVv C hd (ccX0_go l G  hc) kX9_183 rfl (by decide) y16 hl.1 ⟨by decide, by decide⟩ rfl rfl (Nat.le_of_ble_eq_true rfl) dX9_needed_90 ⟨by decide, by decide⟩ (fun H locs hd => ?_)
      generalize S1 = S at h hd
      refine lv_bipush (v := 99) hx hb dX9_needed_93 (by decide) ?_
      refine lv_aload_n hx hb dX9_needed_95 rfl (lv_at hl 2 rfl) ?_
      refine gX9_47 C hd (rfl : kd 0 = 9) (q := 130) rfl dX9_needed_96 (fun y17 => ?_)
      refine gX9_186 C hd y17 (q := 131) rfl dX9_needed_99 (fun y18 => ?_)
      refine lv_iload hx hb dX9_needed_102 (lv_at hl 0 rfl) ?_
      refine R_iald C hd y18 h dX9_needed_104 (fun x19 h => ?_)
      refine lv_isub hx hb dX9_needed_105 ?_
      exact R_tiret C hr hd h (by decide) (by decide) dX9_needed_106
    · rw [if_pos c8] at h
      refine lv_iconst (v := 0) hx hb dX9_needed_42 (by decide) ?_
      exact R_tiret C hr hd h (by decide) (by decide) dX9_needed_43
set_option maxRecDepth 20000 in
theorem ccX9_needed (l : Launch) (G : Gt) (hst : l.stackTraces = false) {a1 : Int32} {a2 : Int32} {a3 : Int32} {S : St} {res : TR}  (h : fX9_needed a1 a2 a3 S = some res) : vx_Met l yX9_needed (wm yX9_needed cX9_needed 6 (some .int)) (rmL 8 3 18) (PcW G S [.ref (gR G 0), .int a1, .int a2, .int a3]) (QTI G res) (XT G res) 3 18 (Ab G) := by
  refine vx_ofW (cc := cX9_needed) (maxL := 6) (ret := (some .int)) (by decide) rfl ?_
  intro p e s m args below meth c s₁ B hml ht hv
  obtain ⟨rfl, hK, hP⟩ := hv
  have C : Cx p s m _ meth c cX9_needed 6 RX9 G := ⟨⟨B.exec, B.bytes, hml, findClass_of_methodNamed B.named, fun w hw => atoms_spec (ws := wm yX9_needed cX9_needed 6 (some .int)) B.pre w (List.mem_cons_of_mem _ hw)⟩, B.notSynchronized, hK⟩
  have hl := lv_entry ([.ref (gR G 0), .int a1, .int a2, .int a3]) (n := 6) (Nat.le_of_ble_eq_true rfl)
  rw [lg_entry_eq]
  generalize (lg_sl ([.ref (gR G 0), .int a1, .int a2, .int a3]) ++ List.replicate (6 - (lg_sl ([.ref (gR G 0), .int a1, .int a2, .int a3])).length) Slot.unset).toArray = ls at hl ⊢
  exact sfX9_needed C B.returns ht hst  ⟨hP, va_S.rf⟩ hl h
end T27
