section T30
variable {p : Program} {l : Launch} {e : Env} {s : State} {m : MethodId} {args : Array Value} {below : List Frame} {meth : Method} {c : Code} {G : Gt}
def BX10_readPart_56 (rx : Int32 → St → Option St) (l2 : Int32) (S : St) : Option St :=
  bv (fX10_lay ((-1) - l2) S) fun S => (if (S 142 24) = 0 then bv (fX10_stepOn  S) fun S => some S else some S)
set_option maxHeartbeats 4000000 in
set_option maxRecDepth 20000 in
theorem sBX10_readPart_56 (C : Cx p s m args meth c cX10_readPart 3 RX10 G) (hr : meth.sig.returnType = none) {rx : Int32 → St → Option St} {dx : Nat} (hrx : ∀ (a1 : Int32) (S res : St), rx a1 S = some res → Met l yX10_readExpression (wm yX10_readExpression cX10_readExpression 3 (none)) (rmL dx 0 0) (PcW G S [.ref (gR G 142), .int a1]) (QV G res) 0 0 (Ab G)) {l2 : Int32} {S : St} {res : St} {H : Heap} {locs : List Loc} {ls : Array Slot}  (hd : Dy G S s H locs) (hl : lv_has ls 3 [(0, .ref (gR G 142)), (2, .int l2)]) (h : BX10_readPart_56 rx l2 S = some res) : W p l e (rmL (dx + 12) 0 0) s m args below meth c H locs 0 0 (MQ below (QV G res) args s 0 0 (Ab G)) (F0 m 56 ls []) := by
  unfold BX10_readPart_56 at h
  have hx := C.1.1
  have hb := C.1.2.1
  refine lv_aload_n hx hb dX10_readPart_56 rfl (lv_at hl 0 rfl) ?_
  refine lv_iconst (v := -1) hx hb dX10_readPart_57 (by decide) ?_
  refine lv_iload_n hx hb dX10_readPart_58 rfl (lv_at hl 1 rfl) ?_
  refine lv_isub hx hb dX10_readPart_59 ?_
  obtain ⟨S1, hc, h⟩ := bv_some h
  refine R_cVv C hd (ccX10_lay l G  hc) kX10_257 rfl (by decide) (rfl : kd 142 = 10) hl.1 ⟨by simp only [rmL]; omega, by simp only [rmL]; omega⟩ rfl rfl (Nat.le_of_ble_eq_true rfl) dX10_readPart_60 ⟨Nat.zero_le _, Nat.zero_le _⟩ (fun H locs hd => ?_)
  generalize S1 = S at h hd
  refine lv_aload_n hx hb dX10_readPart_63 rfl (lv_at hl 0 rfl) ?_
  refine gX10_216 C hd (rfl : kd 142 = 10) dX10_readPart_64 ?_
  refine lv_if_ne (tgt := 74) hx hb dX10_readPart_67 (by decide) (fun c1 => ?_) (fun c1 => ?_)
  · rw [if_neg c1] at h
    exact R_vret C hr hd h dX10_readPart_74
  · rw [if_pos c1] at h
    refine lv_aload_n hx hb dX10_readPart_70 rfl (lv_at hl 0 rfl) ?_
    obtain ⟨S1, hc, h⟩ := bv_some h
    refine R_cVv C hd (ccX10_stepOn l G  hc) kX10_241 rfl (by decide) (rfl : kd 142 = 10) hl.1 ⟨by simp only [rmL]; omega, by simp only [rmL]; omega⟩ rfl rfl (Nat.le_of_ble_eq_true rfl) dX10_readPart_71 ⟨Nat.zero_le _, Nat.zero_le _⟩ (fun H locs hd => ?_)
    generalize S1 = S at h hd
    exact R_vret C hr hd h dX10_readPart_74
def fX10_readPart (rx : Int32 → St → Option St) (a1 : Int32) (S : St) : Option St :=
  (if (S 142 24) = 0 then (if (S 142 20) = 2 then bd (fX10_readNumber 0 9999 S) fun x7 S => bv (fX10_lay x7 S) fun S => some S else (if (S 142 20) = 1 then gm S 142 2 23 fun q4 => bd (fX10_which q4 S) fun x5 S => (if x5 = (-1) then bv (fX10_wrong 3 S) fun S => (BX10_readPart_56 rx x5 S) else (BX10_readPart_56 rx x5 S)) else bv (fX10_mark 40 S) fun S => bv (rx (a1 + 1) S) fun S => bv (fX10_mark 41 S) fun S => some S)) else some S)
set_option maxHeartbeats 4000000 in
set_option maxRecDepth 20000 in
theorem sfX10_readPart (C : Cx p s m args meth c cX10_readPart 3 RX10 G) (hr : meth.sig.returnType = none) {rx : Int32 → St → Option St} {dx : Nat} (hrx : ∀ (a1 : Int32) (S res : St), rx a1 S = some res → Met l yX10_readExpression (wm yX10_readExpression cX10_readExpression 3 (none)) (rmL dx 0 0) (PcW G S [.ref (gR G 142), .int a1]) (QV G res) 0 0 (Ab G)) {a1 : Int32} {S : St} {res : St} {H : Heap} {locs : List Loc} {ls : Array Slot}  (hd : Dy G S s H locs) (hl : lv_has ls 3 [(0, .ref (gR G 142)), (1, .int a1)]) (h : fX10_readPart rx a1 S = some res) : W p l e (rmL (dx + 12) 0 0) s m args below meth c H locs 0 0 (MQ below (QV G res) args s 0 0 (Ab G)) (F0 m 0 ls []) := by
  unfold fX10_readPart at h
  have hx := C.1.1
  have hb := C.1.2.1
  refine lv_aload_n hx hb dX10_readPart_0 rfl (lv_at hl 0 rfl) ?_
  refine gX10_216 C hd (rfl : kd 142 = 10) dX10_readPart_1 ?_
  refine lv_if_eq (tgt := 8) hx hb dX10_readPart_4 (by decide) (fun c1 => ?_) (fun c1 => ?_)
  · rw [if_pos c1] at h
    refine lv_aload_n hx hb dX10_readPart_8 rfl (lv_at hl 0 rfl) ?_
    refine gX10_190 C hd (rfl : kd 142 = 10) dX10_readPart_9 ?_
    refine lv_iconst (v := 2) hx hb dX10_readPart_12 (by decide) ?_
    refine lv_icmp_ne (tgt := 29) hx hb dX10_readPart_13 (by decide) (fun c2 => ?_) (fun c2 => ?_)
    · rw [if_neg c2] at h
      refine lv_aload_n hx hb dX10_readPart_29 rfl (lv_at hl 0 rfl) ?_
      refine gX10_190 C hd (rfl : kd 142 = 10) dX10_readPart_30 ?_
      refine lv_iconst (v := 1) hx hb dX10_readPart_33 (by decide) ?_
      refine lv_icmp_ne (tgt := 75) hx hb dX10_readPart_34 (by decide) (fun c3 => ?_) (fun c3 => ?_)
      · rw [if_neg c3] at h
        refine lv_aload_n hx hb dX10_readPart_75 rfl (lv_at hl 0 rfl) ?_
        refine lv_bipush (v := 40) hx hb dX10_readPart_76 (by decide) ?_
        obtain ⟨S1, hc, h⟩ := bv_some h
        refine R_cVv C hd (ccX10_mark l G  hc) kX10_264 rfl (by decide) (rfl : kd 142 = 10) hl.1 ⟨by simp only [rmL]; omega, by simp only [rmL]; omega⟩ rfl rfl (Nat.le_of_ble_eq_true rfl) dX10_readPart_78 ⟨Nat.zero_le _, Nat.zero_le _⟩ (fun H locs hd => ?_)
        generalize S1 = S at h hd
        refine lv_aload_n hx hb dX10_readPart_81 rfl (lv_at hl 0 rfl) ?_
        refine lv_iload_n hx hb dX10_readPart_82 rfl (lv_at hl 1 rfl) ?_
        refine lv_iconst (v := 1) hx hb dX10_readPart_83 (by decide) ?_
        refine lv_iadd hx hb dX10_readPart_84 ?_
        obtain ⟨S1, hc, h⟩ := bv_some h
        refine R_cVv C hd (hrx (a1 + 1) _ _ hc) kX10_267 rfl (by decide) (rfl : kd 142 = 10) hl.1 ⟨by simp only [rmL]; omega, by simp only [rmL]; omega⟩ rfl rfl (Nat.le_of_ble_eq_true rfl) dX10_readPart_85 ⟨Nat.zero_le _, Nat.zero_le _⟩ (fun H locs hd => ?_)
        generalize S1 = S at h hd
        refine lv_aload_n hx hb dX10_readPart_88 rfl (lv_at hl 0 rfl) ?_
        refine lv_bipush (v := 41) hx hb dX10_readPart_89 (by decide) ?_
        obtain ⟨S1, hc, h⟩ := bv_some h
        refine R_cVv C hd (ccX10_mark l G  hc) kX10_264 rfl (by decide) (rfl : kd 142 = 10) hl.1 ⟨by simp only [rmL]; omega, by simp only [rmL]; omega⟩ rfl rfl (Nat.le_of_ble_eq_true rfl) dX10_readPart_91 ⟨Nat.zero_le _, Nat.zero_le _⟩ (fun H locs hd => ?_)
        generalize S1 = S at h hd
        exact R_vret C hr hd h dX10_readPart_94
      · rw [if_pos c3] at h
        refine lv_aload_n hx hb dX10_readPart_37 rfl (lv_at hl 0 rfl) ?_
        refine lv_aload_n hx hb dX10_readPart_38 rfl (lv_at hl 0 rfl) ?_
        refine gX10_36 C hd (rfl : kd 142 = 10) h dX10_readPart_39 (fun q4 kq4 h => ?_)
        obtain ⟨x5, S1, hc, h⟩ := bd_some h
        refine R_cVi C hd (ccX10_which l G kq4 hc) kX10_260 rfl (by decide) (rfl : kd 142 = 10) hl.1 ⟨by simp only [rmL]; omega, by simp only [rmL]; omega⟩ rfl rfl (Nat.le_of_ble_eq_true rfl) dX10_readPart_42 ⟨Nat.zero_le _, Nat.zero_le _⟩ (fun H locs hd => ?_)
        generalize S1 = S at h hd
        refine lv_istore_n (lv' := [(2, .int x5), (0, .ref (gR G 142)), (1, .int a1)]) hx hb dX10_readPart_45 rfl hl (by decide) rfl (fun ls hl => ?_)
        refine lv_iload_n hx hb dX10_readPart_46 rfl (lv_at hl 0 rfl) ?_
        refine lv_iconst (v := -1) hx hb dX10_readPart_47 (by decide) ?_
        refine lv_icmp_ne (tgt := 56) hx hb dX10_readPart_48 (by decide) (fun c6 => ?_) (fun c6 => ?_)
        · rw [if_neg c6] at h
          exact sBX10_readPart_56 C hr hrx  hd (lv_sub hl [1, 0] rfl) h
        · rw [if_pos c6] at h
          refine lv_aload_n hx hb dX10_readPart_51 rfl (lv_at hl 1 rfl) ?_
          refine lv_iconst (v := 3) hx hb dX10_readPart_52 (by decide) ?_
          obtain ⟨S1, hc, h⟩ := bv_some h
          refine R_cVv C hd (ccX10_wrong l G  hc) kX10_237 rfl (by decide) (rfl : kd 142 = 10) hl.1 ⟨by simp only [rmL]; omega, by simp only [rmL]; omega⟩ rfl rfl (Nat.le_of_ble_eq_true rfl) dX10_readPart_53 ⟨Nat.zero_le _, Nat.zero_le _⟩ (fun H locs hd => ?_)
          generalize S1 = S at h hd
          exact sBX10_readPart_56 C hr hrx  hd (lv_sub hl [1, 0] rfl) h
    · rw [if_pos c2] at h
      refine lv_aload_n hx hb dX10_readPart_16 rfl (lv_at hl 0 rfl) ?_
      refine lv_aload_n hx hb dX10_readPart_17 rfl (lv_at hl 0 rfl) ?_
      refine lv_iconst (v := 0) hx hb dX10_readPart_18 (by decide) ?_
      refine lv_sipush (v := 9999) hx hb dX10_readPart_19 (by decide) ?_
      obtain ⟨x7, S1, hc, h⟩ := bd_some h
      refine R_cVi C hd (ccX10_readNumber l G  hc) kX10_254 rfl (by decide) (rfl : kd 142 = 10) hl.1 ⟨by simp only [rmL]; omega, by simp only [rmL]; omega⟩ rfl rfl (Nat.le_of_ble_eq_true rfl) dX10_readPart_22 ⟨Nat.zero_le _, Nat.zero_le _⟩ (fun H locs hd => ?_)
      generalize S1 = S at h hd
      obtain ⟨S1, hc, h⟩ := bv_some h
      refine R_cVv C hd (ccX10_lay l G  hc) kX10_257 rfl (by decide) (rfl : kd 142 = 10) hl.1 ⟨by simp only [rmL]; omega, by simp only [rmL]; omega⟩ rfl rfl (Nat.le_of_ble_eq_true rfl) dX10_readPart_25 ⟨Nat.zero_le _, Nat.zero_le _⟩ (fun H locs hd => ?_)
      generalize S1 = S at h hd
      exact R_vret C hr hd h dX10_readPart_28
  · rw [if_neg c1] at h
    exact R_vret C hr hd h dX10_readPart_7
set_option maxRecDepth 20000 in
theorem ccX10_readPart (l : Launch) (G : Gt) {rx : Int32 → St → Option St} {dx : Nat} (hrx : ∀ (a1 : Int32) (S res : St), rx a1 S = some res → Met l yX10_readExpression (wm yX10_readExpression cX10_readExpression 3 (none)) (rmL dx 0 0) (PcW G S [.ref (gR G 142), .int a1]) (QV G res) 0 0 (Ab G)) {a1 : Int32} {S : St} {res : St}  (h : fX10_readPart rx a1 S = some res) : Met l yX10_readPart (wm yX10_readPart cX10_readPart 3 (none)) (rmL (dx + 12) 0 0) (PcW G S [.ref (gR G 142), .int a1]) (QV G res) 0 0 (Ab G) := by
  refine Met.ofW (cc := cX10_readPart) (maxL := 3) (ret := none) (by decide) rfl ?_
  intro p e s m args below meth c s₁ B hml hv
  obtain ⟨rfl, hK, hP⟩ := hv
  have C : Cx p s m _ meth c cX10_readPart 3 RX10 G := ⟨⟨B.exec, B.bytes, hml, findClass_of_methodNamed B.named, fun w hw => atoms_spec (ws := wm yX10_readPart cX10_readPart 3 (none)) B.pre w (List.mem_cons_of_mem _ hw)⟩, B.notSynchronized, hK⟩
  have hl := lv_entry ([.ref (gR G 142), .int a1]) (n := 3) (Nat.le_of_ble_eq_true rfl)
  rw [lg_entry_eq]
  generalize (lg_sl ([.ref (gR G 142), .int a1]) ++ List.replicate (3 - (lg_sl ([.ref (gR G 142), .int a1])).length) Slot.unset).toArray = ls at hl ⊢
  exact sfX10_readPart C B.returns hrx  ⟨hP, va_S.rf⟩ hl h
def BX10_readProduct_39 (rx : Int32 → St → Option St) (r5 : Int32 → St → Option St) (l1 : Int32) (s0 : Int32) (S : St) : Option St :=
  bv (fX10_stepOn  S) fun S => bv (fX10_readPart rx l1 S) fun S => bv (fX10_lay s0 S) fun S => (r5 l1 S)
set_option maxHeartbeats 4000000 in
set_option maxRecDepth 20000 in
theorem sBX10_readProduct_39 (C : Cx p s m args meth c cX10_readProduct 3 RX10 G) (hr : meth.sig.returnType = none) {rx : Int32 → St → Option St} {r5 : Int32 → St → Option St} {dx : Nat} (hrx : ∀ (a1 : Int32) (S res : St), rx a1 S = some res → Met l yX10_readExpression (wm yX10_readExpression cX10_readExpression 3 (none)) (rmL dx 0 0) (PcW G S [.ref (gR G 142), .int a1]) (QV G res) 0 0 (Ab G)) (hr5 : ∀ (l1 : Int32) (S : St) (res : St) (H : Heap) (locs : List Loc) (ls : Array Slot), Dy G S s H locs → lv_has ls 3 [(0, .ref (gR G 142)), (1, .int l1)] → r5 l1 S = some res → W p l e (rmL (dx + 13) 0 0) s m args below meth c H locs 0 0 (MQ below (QV G res) args s 0 0 (Ab G)) (F0 m 5 ls [])) {l1 : Int32} {s0 : Int32} {S : St} {res : St} {H : Heap} {locs : List Loc} {ls : Array Slot}  (hd : Dy G S s H locs) (hl : lv_has ls 3 [(0, .ref (gR G 142)), (1, .int l1)]) (h : BX10_readProduct_39 rx r5 l1 s0 S = some res) : W p l e (rmL (dx + 13) 0 0) s m args below meth c H locs 0 0 (MQ below (QV G res) args s 0 0 (Ab G)) (F0 m 39 ls [.int s0]) := by
  unfold BX10_readProduct_39 at h
  have hx := C.1.1
  have hb := C.1.2.1
  refine lv_istore_n (lv' := [(2, .int s0), (0, .ref (gR G 142)), (1, .int l1)]) hx hb dX10_readProduct_39 rfl hl (by decide) rfl (fun ls hl => ?_)
  refine lv_aload_n hx hb dX10_readProduct_40 rfl (lv_at hl 1 rfl) ?_
  obtain ⟨S1, hc, h⟩ := bv_some h
  refine R_cVv C hd (ccX10_stepOn l G  hc) kX10_241 rfl (by decide) (rfl : kd 142 = 10) hl.1 ⟨by simp only [rmL]; omega, by simp only [rmL]; omega⟩ rfl rfl (Nat.le_of_ble_eq_true rfl) dX10_readProduct_41 ⟨Nat.zero_le _, Nat.zero_le _⟩ (fun H locs hd => ?_)
  generalize S1 = S at h hd
  refine lv_aload_n hx hb dX10_readProduct_44 rfl (lv_at hl 1 rfl) ?_
  refine lv_iload_n hx hb dX10_readProduct_45 rfl (lv_at hl 2 rfl) ?_
  obtain ⟨S1, hc, h⟩ := bv_some h
  refine R_cVv C hd (ccX10_readPart l G hrx  hc) kX10_270 rfl (by decide) (rfl : kd 142 = 10) hl.1 ⟨by simp only [rmL]; omega, by simp only [rmL]; omega⟩ rfl rfl (Nat.le_of_ble_eq_true rfl) dX10_readProduct_46 ⟨Nat.zero_le _, Nat.zero_le _⟩ (fun H locs hd => ?_)
  generalize S1 = S at h hd
  refine lv_aload_n hx hb dX10_readProduct_49 rfl (lv_at hl 1 rfl) ?_
  refine lv_iload_n hx hb dX10_readProduct_50 rfl (lv_at hl 0 rfl) ?_
  obtain ⟨S1, hc, h⟩ := bv_some h
  refine R_cVv C hd (ccX10_lay l G  hc) kX10_257 rfl (by decide) (rfl : kd 142 = 10) hl.1 ⟨by simp only [rmL]; omega, by simp only [rmL]; omega⟩ rfl rfl (Nat.le_of_ble_eq_true rfl) dX10_readProduct_51 ⟨Nat.zero_le _, Nat.zero_le _⟩ (fun H locs hd => ?_)
  generalize S1 = S at h hd
  refine lv_goto (tgt := 5) hx hb dX10_readProduct_54 (by decide) ?_
  exact hr5 l1 _ _ _ _ _  hd (lv_sub hl [1, 2] rfl) h
def BX10_readProduct_23 (rx : Int32 → St → Option St) (r5 : Int32 → St → Option St) (l1 : Int32) (S : St) : Option St :=
  bd (fX10_isMarked 42 S) fun x1 S => (if x1 = 0 then (BX10_readProduct_39 rx r5 l1 ((-23)) S) else (BX10_readProduct_39 rx r5 l1 ((-22)) S))
set_option maxHeartbeats 4000000 in
set_option maxRecDepth 20000 in
theorem sBX10_readProduct_23 (C : Cx p s m args meth c cX10_readProduct 3 RX10 G) (hr : meth.sig.returnType = none) {rx : Int32 → St → Option St} {r5 : Int32 → St → Option St} {dx : Nat} (hrx : ∀ (a1 : Int32) (S res : St), rx a1 S = some res → Met l yX10_readExpression (wm yX10_readExpression cX10_readExpression 3 (none)) (rmL dx 0 0) (PcW G S [.ref (gR G 142), .int a1]) (QV G res) 0 0 (Ab G)) (hr5 : ∀ (l1 : Int32) (S : St) (res : St) (H : Heap) (locs : List Loc) (ls : Array Slot), Dy G S s H locs → lv_has ls 3 [(0, .ref (gR G 142)), (1, .int l1)] → r5 l1 S = some res → W p l e (rmL (dx + 13) 0 0) s m args below meth c H locs 0 0 (MQ below (QV G res) args s 0 0 (Ab G)) (F0 m 5 ls [])) {l1 : Int32} {S : St} {res : St} {H : Heap} {locs : List Loc} {ls : Array Slot}  (hd : Dy G S s H locs) (hl : lv_has ls 3 [(0, .ref (gR G 142)), (1, .int l1)]) (h : BX10_readProduct_23 rx r5 l1 S = some res) : W p l e (rmL (dx + 13) 0 0) s m args below meth c H locs 0 0 (MQ below (QV G res) args s 0 0 (Ab G)) (F0 m 23 ls []) := by
  unfold BX10_readProduct_23 at h
  have hx := C.1.1
  have hb := C.1.2.1
  refine lv_aload_n hx hb dX10_readProduct_23 rfl (lv_at hl 0 rfl) ?_
  refine lv_bipush (v := 42) hx hb dX10_readProduct_24 (by decide) ?_
  obtain ⟨x1, S1, hc, h⟩ := bd_some h
  refine R_cVi C hd (ccX10_isMarked l G  hc) kX10_234 rfl (by decide) (rfl : kd 142 = 10) hl.1 ⟨by simp only [rmL]; omega, by simp only [rmL]; omega⟩ rfl rfl (Nat.le_of_ble_eq_true rfl) dX10_readProduct_26 ⟨Nat.zero_le _, Nat.zero_le _⟩ (fun H locs hd => ?_)
  generalize S1 = S at h hd
  refine lv_if_eq (tgt := 37) hx hb dX10_readProduct_29 (by decide) (fun c2 => ?_) (fun c2 => ?_)
  · rw [if_pos c2] at h
    refine lv_bipush (v := -23) hx hb dX10_readProduct_37 (by decide) ?_
    exact sBX10_readProduct_39 C hr hrx hr5  hd (lv_sub hl [0, 1] rfl) h
  · rw [if_neg c2] at h
    refine lv_bipush (v := -22) hx hb dX10_readProduct_32 (by decide) ?_
    refine lv_goto (tgt := 39) hx hb dX10_readProduct_34 (by decide) ?_
    exact sBX10_readProduct_39 C hr hrx hr5  hd (lv_sub hl [0, 1] rfl) h
def KX10_readProduct_5 (rx : Int32 → St → Option St) (r5 : Int32 → St → Option St) (l1 : Int32) (S : St) : Option St :=
  bd (fX10_isMarked 42 S) fun x1 S => (if x1 = 0 then bd (fX10_isMarked 47 S) fun x3 S => (if x3 = 0 then some S else (BX10_readProduct_23 rx r5 l1 S)) else (BX10_readProduct_23 rx r5 l1 S))
set_option maxHeartbeats 4000000 in
set_option maxRecDepth 20000 in
theorem sKX10_readProduct_5 (C : Cx p s m args meth c cX10_readProduct 3 RX10 G) (hr : meth.sig.returnType = none) {rx : Int32 → St → Option St} {r5 : Int32 → St → Option St} {dx : Nat} (hrx : ∀ (a1 : Int32) (S res : St), rx a1 S = some res → Met l yX10_readExpression (wm yX10_readExpression cX10_readExpression 3 (none)) (rmL dx 0 0) (PcW G S [.ref (gR G 142), .int a1]) (QV G res) 0 0 (Ab G)) (hr5 : ∀ (l1 : Int32) (S : St) (res : St) (H : Heap) (locs : List Loc) (ls : Array Slot), Dy G S s H locs → lv_has ls 3 [(0, .ref (gR G 142)), (1, .int l1)] → r5 l1 S = some res → W p l e (rmL (dx + 13) 0 0) s m args below meth c H locs 0 0 (MQ below (QV G res) args s 0 0 (Ab G)) (F0 m 5 ls [])) {l1 : Int32} {S : St} {res : St} {H : Heap} {locs : List Loc} {ls : Array Slot}  (hd : Dy G S s H locs) (hl : lv_has ls 3 [(0, .ref (gR G 142)), (1, .int l1)]) (h : KX10_readProduct_5 rx r5 l1 S = some res) : W p l e (rmL (dx + 13) 0 0) s m args below meth c H locs 0 0 (MQ below (QV G res) args s 0 0 (Ab G)) (F0 m 5 ls []) := by
  unfold KX10_readProduct_5 at h
  have hx := C.1.1
  have hb := C.1.2.1
  refine lv_aload_n hx hb dX10_readProduct_5 rfl (lv_at hl 0 rfl) ?_
  refine lv_bipush (v := 42) hx hb dX10_readProduct_6 (by decide) ?_
  obtain ⟨x1, S1, hc, h⟩ := bd_some h
  refine R_cVi C hd (ccX10_isMarked l G  hc) kX10_234 rfl (by decide) (rfl : kd 142 = 10) hl.1 ⟨by simp only [rmL]; omega, by simp only [rmL]; omega⟩ rfl rfl (Nat.le_of_ble_eq_true rfl) dX10_readProduct_8 ⟨Nat.zero_le _, Nat.zero_le _⟩ (fun H locs hd => ?_)
  generalize S1 = S at h hd
  refine lv_if_ne (tgt := 23) hx hb dX10_readProduct_11 (by decide) (fun c2 => ?_) (fun c2 => ?_)
  · rw [if_neg c2] at h
    exact sBX10_readProduct_23 C hr hrx hr5  hd (lv_sub hl [0, 1] rfl) h
  · rw [if_pos c2] at h
    refine lv_aload_n hx hb dX10_readProduct_14 rfl (lv_at hl 0 rfl) ?_
    refine lv_bipush (v := 47) hx hb dX10_readProduct_15 (by decide) ?_
    obtain ⟨x3, S1, hc, h⟩ := bd_some h
    refine R_cVi C hd (ccX10_isMarked l G  hc) kX10_234 rfl (by decide) (rfl : kd 142 = 10) hl.1 ⟨by simp only [rmL]; omega, by simp only [rmL]; omega⟩ rfl rfl (Nat.le_of_ble_eq_true rfl) dX10_readProduct_17 ⟨Nat.zero_le _, Nat.zero_le _⟩ (fun H locs hd => ?_)
    generalize S1 = S at h hd
    refine lv_if_eq (tgt := 57) hx hb dX10_readProduct_20 (by decide) (fun c4 => ?_) (fun c4 => ?_)
    · rw [if_pos c4] at h
      exact R_vret C hr hd h dX10_readProduct_57
    · rw [if_neg c4] at h
      exact sBX10_readProduct_23 C hr hrx hr5  hd (lv_sub hl [0, 1] rfl) h
def LX10_readProduct_5 (rx : Int32 → St → Option St) : Nat → Int32 → St → Option St
  | 0 => fun _ _ => none
  | n + 1 => fun l1 S => KX10_readProduct_5 rx (LX10_readProduct_5 rx n) l1 S
theorem sLX10_readProduct_5 (C : Cx p s m args meth c cX10_readProduct 3 RX10 G) (hr : meth.sig.returnType = none) {rx : Int32 → St → Option St} {dx : Nat} (hrx : ∀ (a1 : Int32) (S res : St), rx a1 S = some res → Met l yX10_readExpression (wm yX10_readExpression cX10_readExpression 3 (none)) (rmL dx 0 0) (PcW G S [.ref (gR G 142), .int a1]) (QV G res) 0 0 (Ab G)) : ∀ (n : Nat) (l1 : Int32) (S : St) (res : St) (H : Heap) (locs : List Loc) (ls : Array Slot), Dy G S s H locs → lv_has ls 3 [(0, .ref (gR G 142)), (1, .int l1)] → LX10_readProduct_5 rx n l1 S = some res → W p l e (rmL (dx + 13) 0 0) s m args below meth c H locs 0 0 (MQ below (QV G res) args s 0 0 (Ab G)) (F0 m 5 ls []) := by
  intro n
  induction n with
  | zero => intro l1 S res H locs ls  hd hl h; cases h
  | succ n ih =>
    intro l1 S res H locs ls  hd hl h
    exact sKX10_readProduct_5 C hr hrx ih  hd hl h
def fX10_readProduct (rx : Int32 → St → Option St) (a1 : Int32) (S : St) : Option St :=
  bv (fX10_readPart rx a1 S) fun S => (LX10_readProduct_5 rx FU a1 S)
set_option maxHeartbeats 4000000 in
set_option maxRecDepth 20000 in
theorem sfX10_readProduct (C : Cx p s m args meth c cX10_readProduct 3 RX10 G) (hr : meth.sig.returnType = none) {rx : Int32 → St → Option St} {dx : Nat} (hrx : ∀ (a1 : Int32) (S res : St), rx a1 S = some res → Met l yX10_readExpression (wm yX10_readExpression cX10_readExpression 3 (none)) (rmL dx 0 0) (PcW G S [.ref (gR G 142), .int a1]) (QV G res) 0 0 (Ab G)) {a1 : Int32} {S : St} {res : St} {H : Heap} {locs : List Loc} {ls : Array Slot}  (hd : Dy G S s H locs) (hl : lv_has ls 3 [(0, .ref (gR G 142)), (1, .int a1)]) (h : fX10_readProduct rx a1 S = some res) : W p l e (rmL (dx + 13) 0 0) s m args below meth c H locs 0 0 (MQ below (QV G res) args s 0 0 (Ab G)) (F0 m 0 ls []) := by
  unfold fX10_readProduct at h
  have hx := C.1.1
  have hb := C.1.2.1
  refine lv_aload_n hx hb dX10_readProduct_0 rfl (lv_at hl 0 rfl) ?_
  refine lv_iload_n hx hb dX10_readProduct_1 rfl (lv_at hl 1 rfl) ?_
  obtain ⟨S1, hc, h⟩ := bv_some h
  refine R_cVv C hd (ccX10_readPart l G hrx  hc) kX10_270 rfl (by decide) (rfl : kd 142 = 10) hl.1 ⟨by simp only [rmL]; omega, by simp only [rmL]; omega⟩ rfl rfl (Nat.le_of_ble_eq_true rfl) dX10_readProduct_2 ⟨Nat.zero_le _, Nat.zero_le _⟩ (fun H locs hd => ?_)
  generalize S1 = S at h hd
  exact sLX10_readProduct_5 C hr hrx _ a1 _ _ _ _ _  hd (lv_sub hl [0, 1] rfl) h
set_option maxRecDepth 20000 in
theorem ccX10_readProduct (l : Launch) (G : Gt) {rx : Int32 → St → Option St} {dx : Nat} (hrx : ∀ (a1 : Int32) (S res : St), rx a1 S = some res → Met l yX10_readExpression (wm yX10_readExpression cX10_readExpression 3 (none)) (rmL dx 0 0) (PcW G S [.ref (gR G 142), .int a1]) (QV G res) 0 0 (Ab G)) {a1 : Int32} {S : St} {res : St}  (h : fX10_readProduct rx a1 S = some res) : Met l yX10_readProduct (wm yX10_readProduct cX10_readProduct 3 (none)) (rmL (dx + 13) 0 0) (PcW G S [.ref (gR G 142), .int a1]) (QV G res) 0 0 (Ab G) := by
  refine Met.ofW (cc := cX10_readProduct) (maxL := 3) (ret := none) (by decide) rfl ?_
  intro p e s m args below meth c s₁ B hml hv
  obtain ⟨rfl, hK, hP⟩ := hv
  have C : Cx p s m _ meth c cX10_readProduct 3 RX10 G := ⟨⟨B.exec, B.bytes, hml, findClass_of_methodNamed B.named, fun w hw => atoms_spec (ws := wm yX10_readProduct cX10_readProduct 3 (none)) B.pre w (List.mem_cons_of_mem _ hw)⟩, B.notSynchronized, hK⟩
  have hl := lv_entry ([.ref (gR G 142), .int a1]) (n := 3) (Nat.le_of_ble_eq_true rfl)
  rw [lg_entry_eq]
  generalize (lg_sl ([.ref (gR G 142), .int a1]) ++ List.replicate (3 - (lg_sl ([.ref (gR G 142), .int a1])).length) Slot.unset).toArray = ls at hl ⊢
  exact sfX10_readProduct C B.returns hrx  ⟨hP, va_S.rf⟩ hl h
def BX10_readSum_39 (rx : Int32 → St → Option St) (r5 : Int32 → St → Option St) (l1 : Int32) (s0 : Int32) (S : St) : Option St :=
  bv (fX10_stepOn  S) fun S => bv (fX10_readProduct rx l1 S) fun S => bv (fX10_lay s0 S) fun S => (r5 l1 S)
set_option maxHeartbeats 4000000 in
set_option maxRecDepth 20000 in
theorem sBX10_readSum_39 (C : Cx p s m args meth c cX10_readSum 3 RX10 G) (hr : meth.sig.returnType = none) {rx : Int32 → St → Option St} {r5 : Int32 → St → Option St} {dx : Nat} (hrx : ∀ (a1 : Int32) (S res : St), rx a1 S = some res → Met l yX10_readExpression (wm yX10_readExpression cX10_readExpression 3 (none)) (rmL dx 0 0) (PcW G S [.ref (gR G 142), .int a1]) (QV G res) 0 0 (Ab G)) (hr5 : ∀ (l1 : Int32) (S : St) (res : St) (H : Heap) (locs : List Loc) (ls : Array Slot), Dy G S s H locs → lv_has ls 3 [(0, .ref (gR G 142)), (1, .int l1)] → r5 l1 S = some res → W p l e (rmL (dx + 14) 0 0) s m args below meth c H locs 0 0 (MQ below (QV G res) args s 0 0 (Ab G)) (F0 m 5 ls [])) {l1 : Int32} {s0 : Int32} {S : St} {res : St} {H : Heap} {locs : List Loc} {ls : Array Slot}  (hd : Dy G S s H locs) (hl : lv_has ls 3 [(0, .ref (gR G 142)), (1, .int l1)]) (h : BX10_readSum_39 rx r5 l1 s0 S = some res) : W p l e (rmL (dx + 14) 0 0) s m args below meth c H locs 0 0 (MQ below (QV G res) args s 0 0 (Ab G)) (F0 m 39 ls [.int s0]) := by
  unfold BX10_readSum_39 at h
  have hx := C.1.1
  have hb := C.1.2.1
  refine lv_istore_n (lv' := [(2, .int s0), (0, .ref (gR G 142)), (1, .int l1)]) hx hb dX10_readSum_39 rfl hl (by decide) rfl (fun ls hl => ?_)
  refine lv_aload_n hx hb dX10_readSum_40 rfl (lv_at hl 1 rfl) ?_
  obtain ⟨S1, hc, h⟩ := bv_some h
  refine R_cVv C hd (ccX10_stepOn l G  hc) kX10_241 rfl (by decide) (rfl : kd 142 = 10) hl.1 ⟨by simp only [rmL]; omega, by simp only [rmL]; omega⟩ rfl rfl (Nat.le_of_ble_eq_true rfl) dX10_readSum_41 ⟨Nat.zero_le _, Nat.zero_le _⟩ (fun H locs hd => ?_)
  generalize S1 = S at h hd
  refine lv_aload_n hx hb dX10_readSum_44 rfl (lv_at hl 1 rfl) ?_
  refine lv_iload_n hx hb dX10_readSum_45 rfl (lv_at hl 2 rfl) ?_
  obtain ⟨S1, hc, h⟩ := bv_some h
  refine R_cVv C hd (ccX10_readProduct l G hrx  hc) kX10_273 rfl (by decide) (rfl : kd 142 = 10) hl.1 ⟨by simp only [rmL]; omega, by simp only [rmL]; omega⟩ rfl rfl (Nat.le_of_ble_eq_true rfl) dX10_readSum_46 ⟨Nat.zero_le _, Nat.zero_le _⟩ (fun H locs hd => ?_)
  generalize S1 = S at h hd
  refine lv_aload_n hx hb dX10_readSum_49 rfl (lv_at hl 1 rfl) ?_
  refine lv_iload_n hx hb dX10_readSum_50 rfl (lv_at hl 0 rfl) ?_
  obtain ⟨S1, hc, h⟩ := bv_some h
  refine R_cVv C hd (ccX10_lay l G  hc) kX10_257 rfl (by decide) (rfl : kd 142 = 10) hl.1 ⟨by simp only [rmL]; omega, by simp only [rmL]; omega⟩ rfl rfl (Nat.le_of_ble_eq_true rfl) dX10_readSum_51 ⟨Nat.zero_le _, Nat.zero_le _⟩ (fun H locs hd => ?_)
  generalize S1 = S at h hd
  refine lv_goto (tgt := 5) hx hb dX10_readSum_54 (by decide) ?_
  exact hr5 l1 _ _ _ _ _  hd (lv_sub hl [1, 2] rfl) h
def BX10_readSum_23 (rx : Int32 → St → Option St) (r5 : Int32 → St → Option St) (l1 : Int32) (S : St) : Option St :=
  bd (fX10_isMarked 43 S) fun x1 S => (if x1 = 0 then (BX10_readSum_39 rx r5 l1 ((-21)) S) else (BX10_readSum_39 rx r5 l1 ((-20)) S))
set_option maxHeartbeats 4000000 in
set_option maxRecDepth 20000 in
theorem sBX10_readSum_23 (C : Cx p s m args meth c cX10_readSum 3 RX10 G) (hr : meth.sig.returnType = none) {rx : Int32 → St → Option St} {r5 : Int32 → St → Option St} {dx : Nat} (hrx : ∀ (a1 : Int32) (S res : St), rx a1 S = some res → Met l yX10_readExpression (wm yX10_readExpression cX10_readExpression 3 (none)) (rmL dx 0 0) (PcW G S [.ref (gR G 142), .int a1]) (QV G res) 0 0 (Ab G)) (hr5 : ∀ (l1 : Int32) (S : St) (res : St) (H : Heap) (locs : List Loc) (ls : Array Slot), Dy G S s H locs → lv_has ls 3 [(0, .ref (gR G 142)), (1, .int l1)] → r5 l1 S = some res → W p l e (rmL (dx + 14) 0 0) s m args below meth c H locs 0 0 (MQ below (QV G res) args s 0 0 (Ab G)) (F0 m 5 ls [])) {l1 : Int32} {S : St} {res : St} {H : Heap} {locs : List Loc} {ls : Array Slot}  (hd : Dy G S s H locs) (hl : lv_has ls 3 [(0, .ref (gR G 142)), (1, .int l1)]) (h : BX10_readSum_23 rx r5 l1 S = some res) : W p l e (rmL (dx + 14) 0 0) s m args below meth c H locs 0 0 (MQ below (QV G res) args s 0 0 (Ab G)) (F0 m 23 ls []) := by
  unfold BX10_readSum_23 at h
  have hx := C.1.1
  have hb := C.1.2.1
  refine lv_aload_n hx hb dX10_readSum_23 rfl (lv_at hl 0 rfl) ?_
  refine lv_bipush (v := 43) hx hb dX10_readSum_24 (by decide) ?_
  obtain ⟨x1, S1, hc, h⟩ := bd_some h
  refine R_cVi C hd (ccX10_isMarked l G  hc) kX10_234 rfl (by decide) (rfl : kd 142 = 10) hl.1 ⟨by simp only [rmL]; omega, by simp only [rmL]; omega⟩ rfl rfl (Nat.le_of_ble_eq_true rfl) dX10_readSum_26 ⟨Nat.zero_le _, Nat.zero_le _⟩ (fun H locs hd => ?_)
  generalize S1 = S at h hd
  refine lv_if_eq (tgt := 37) hx hb dX10_readSum_29 (by decide) (fun c2 => ?_) (fun c2 => ?_)
  · rw [if_pos c2] at h
    refine lv_bipush (v := -21) hx hb dX10_readSum_37 (by decide) ?_
    exact sBX10_readSum_39 C hr hrx hr5  hd (lv_sub hl [0, 1] rfl) h
  · rw [if_neg c2] at h
    refine lv_bipush (v := -20) hx hb dX10_readSum_32 (by decide) ?_
    refine lv_goto (tgt := 39) hx hb dX10_readSum_34 (by decide) ?_
    exact sBX10_readSum_39 C hr hrx hr5  hd (lv_sub hl [0, 1] rfl) h
def KX10_readSum_5 (rx : Int32 → St → Option St) (r5 : Int32 → St → Option St) (l1 : Int32) (S : St) : Option St :=
  bd (fX10_isMarked 43 S) fun x1 S => (if x1 = 0 then bd (fX10_isMarked 45 S) fun x3 S => (if x3 = 0 then some S else (BX10_readSum_23 rx r5 l1 S)) else (BX10_readSum_23 rx r5 l1 S))
set_option maxHeartbeats 4000000 in
set_option maxRecDepth 20000 in
theorem sKX10_readSum_5 (C : Cx p s m args meth c cX10_readSum 3 RX10 G) (hr : meth.sig.returnType = none) {rx : Int32 → St → Option St} {r5 : Int32 → St → Option St} {dx : Nat} (hrx : ∀ (a1 : Int32) (S res : St), rx a1 S = some res → Met l yX10_readExpression (wm yX10_readExpression cX10_readExpression 3 (none)) (rmL dx 0 0) (PcW G S [.ref (gR G 142), .int a1]) (QV G res) 0 0 (Ab G)) (hr5 : ∀ (l1 : Int32) (S : St) (res : St) (H : Heap) (locs : List Loc) (ls : Array Slot), Dy G S s H locs → lv_has ls 3 [(0, .ref (gR G 142)), (1, .int l1)] → r5 l1 S = some res → W p l e (rmL (dx + 14) 0 0) s m args below meth c H locs 0 0 (MQ below (QV G res) args s 0 0 (Ab G)) (F0 m 5 ls [])) {l1 : Int32} {S : St} {res : St} {H : Heap} {locs : List Loc} {ls : Array Slot}  (hd : Dy G S s H locs) (hl : lv_has ls 3 [(0, .ref (gR G 142)), (1, .int l1)]) (h : KX10_readSum_5 rx r5 l1 S = some res) : W p l e (rmL (dx + 14) 0 0) s m args below meth c H locs 0 0 (MQ below (QV G res) args s 0 0 (Ab G)) (F0 m 5 ls []) := by
  unfold KX10_readSum_5 at h
  have hx := C.1.1
  have hb := C.1.2.1
  refine lv_aload_n hx hb dX10_readSum_5 rfl (lv_at hl 0 rfl) ?_
  refine lv_bipush (v := 43) hx hb dX10_readSum_6 (by decide) ?_
  obtain ⟨x1, S1, hc, h⟩ := bd_some h
  refine R_cVi C hd (ccX10_isMarked l G  hc) kX10_234 rfl (by decide) (rfl : kd 142 = 10) hl.1 ⟨by simp only [rmL]; omega, by simp only [rmL]; omega⟩ rfl rfl (Nat.le_of_ble_eq_true rfl) dX10_readSum_8 ⟨Nat.zero_le _, Nat.zero_le _⟩ (fun H locs hd => ?_)
  generalize S1 = S at h hd
  refine lv_if_ne (tgt := 23) hx hb dX10_readSum_11 (by decide) (fun c2 => ?_) (fun c2 => ?_)
  · rw [if_neg c2] at h
    exact sBX10_readSum_23 C hr hrx hr5  hd (lv_sub hl [0, 1] rfl) h
  · rw [if_pos c2] at h
    refine lv_aload_n hx hb dX10_readSum_14 rfl (lv_at hl 0 rfl) ?_
    refine lv_bipush (v := 45) hx hb dX10_readSum_15 (by decide) ?_
    obtain ⟨x3, S1, hc, h⟩ := bd_some h
    refine R_cVi C hd (ccX10_isMarked l G  hc) kX10_234 rfl (by decide) (rfl : kd 142 = 10) hl.1 ⟨by simp only [rmL]; omega, by simp only [rmL]; omega⟩ rfl rfl (Nat.le_of_ble_eq_true rfl) dX10_readSum_17 ⟨Nat.zero_le _, Nat.zero_le _⟩ (fun H locs hd => ?_)
    generalize S1 = S at h hd
    refine lv_if_eq (tgt := 57) hx hb dX10_readSum_20 (by decide) (fun c4 => ?_) (fun c4 => ?_)
    · rw [if_pos c4] at h
      exact R_vret C hr hd h dX10_readSum_57
    · rw [if_neg c4] at h
      exact sBX10_readSum_23 C hr hrx hr5  hd (lv_sub hl [0, 1] rfl) h
def LX10_readSum_5 (rx : Int32 → St → Option St) : Nat → Int32 → St → Option St
  | 0 => fun _ _ => none
  | n + 1 => fun l1 S => KX10_readSum_5 rx (LX10_readSum_5 rx n) l1 S
theorem sLX10_readSum_5 (C : Cx p s m args meth c cX10_readSum 3 RX10 G) (hr : meth.sig.returnType = none) {rx : Int32 → St → Option St} {dx : Nat} (hrx : ∀ (a1 : Int32) (S res : St), rx a1 S = some res → Met l yX10_readExpression (wm yX10_readExpression cX10_readExpression 3 (none)) (rmL dx 0 0) (PcW G S [.ref (gR G 142), .int a1]) (QV G res) 0 0 (Ab G)) : ∀ (n : Nat) (l1 : Int32) (S : St) (res : St) (H : Heap) (locs : List Loc) (ls : Array Slot), Dy G S s H locs → lv_has ls 3 [(0, .ref (gR G 142)), (1, .int l1)] → LX10_readSum_5 rx n l1 S = some res → W p l e (rmL (dx + 14) 0 0) s m args below meth c H locs 0 0 (MQ below (QV G res) args s 0 0 (Ab G)) (F0 m 5 ls []) := by
  intro n
  induction n with
  | zero => intro l1 S res H locs ls  hd hl h; cases h
  | succ n ih =>
    intro l1 S res H locs ls  hd hl h
    exact sKX10_readSum_5 C hr hrx ih  hd hl h
def fX10_readSum (rx : Int32 → St → Option St) (a1 : Int32) (S : St) : Option St :=
  bv (fX10_readProduct rx a1 S) fun S => (LX10_readSum_5 rx FU a1 S)
set_option maxHeartbeats 4000000 in
set_option maxRecDepth 20000 in
theorem sfX10_readSum (C : Cx p s m args meth c cX10_readSum 3 RX10 G) (hr : meth.sig.returnType = none) {rx : Int32 → St → Option St} {dx : Nat} (hrx : ∀ (a1 : Int32) (S res : St), rx a1 S = some res → Met l yX10_readExpression (wm yX10_readExpression cX10_readExpression 3 (none)) (rmL dx 0 0) (PcW G S [.ref (gR G 142), .int a1]) (QV G res) 0 0 (Ab G)) {a1 : Int32} {S : St} {res : St} {H : Heap} {locs : List Loc} {ls : Array Slot}  (hd : Dy G S s H locs) (hl : lv_has ls 3 [(0, .ref (gR G 142)), (1, .int a1)]) (h : fX10_readSum rx a1 S = some res) : W p l e (rmL (dx + 14) 0 0) s m args below meth c H locs 0 0 (MQ below (QV G res) args s 0 0 (Ab G)) (F0 m 0 ls []) := by
  unfold fX10_readSum at h
  have hx := C.1.1
  have hb := C.1.2.1
  refine lv_aload_n hx hb dX10_readSum_0 rfl (lv_at hl 0 rfl) ?_
  refine lv_iload_n hx hb dX10_readSum_1 rfl (lv_at hl 1 rfl) ?_
  obtain ⟨S1, hc, h⟩ := bv_some h
  refine R_cVv C hd (ccX10_readProduct l G hrx  hc) kX10_273 rfl (by decide) (rfl : kd 142 = 10) hl.1 ⟨by simp only [rmL]; omega, by simp only [rmL]; omega⟩ rfl rfl (Nat.le_of_ble_eq_true rfl) dX10_readSum_2 ⟨Nat.zero_le _, Nat.zero_le _⟩ (fun H locs hd => ?_)
  generalize S1 = S at h hd
  exact sLX10_readSum_5 C hr hrx _ a1 _ _ _ _ _  hd (lv_sub hl [0, 1] rfl) h
set_option maxRecDepth 20000 in
theorem ccX10_readSum (l : Launch) (G : Gt) {rx : Int32 → St → Option St} {dx : Nat} (hrx : ∀ (a1 : Int32) (S res : St), rx a1 S = some res → Met l yX10_readExpression (wm yX10_readExpression cX10_readExpression 3 (none)) (rmL dx 0 0) (PcW G S [.ref (gR G 142), .int a1]) (QV G res) 0 0 (Ab G)) {a1 : Int32} {S : St} {res : St}  (h : fX10_readSum rx a1 S = some res) : Met l yX10_readSum (wm yX10_readSum cX10_readSum 3 (none)) (rmL (dx + 14) 0 0) (PcW G S [.ref (gR G 142), .int a1]) (QV G res) 0 0 (Ab G) := by
  refine Met.ofW (cc := cX10_readSum) (maxL := 3) (ret := none) (by decide) rfl ?_
  intro p e s m args below meth c s₁ B hml hv
  obtain ⟨rfl, hK, hP⟩ := hv
  have C : Cx p s m _ meth c cX10_readSum 3 RX10 G := ⟨⟨B.exec, B.bytes, hml, findClass_of_methodNamed B.named, fun w hw => atoms_spec (ws := wm yX10_readSum cX10_readSum 3 (none)) B.pre w (List.mem_cons_of_mem _ hw)⟩, B.notSynchronized, hK⟩
  have hl := lv_entry ([.ref (gR G 142), .int a1]) (n := 3) (Nat.le_of_ble_eq_true rfl)
  rw [lg_entry_eq]
  generalize (lg_sl ([.ref (gR G 142), .int a1]) ++ List.replicate (3 - (lg_sl ([.ref (gR G 142), .int a1])).length) Slot.unset).toArray = ls at hl ⊢
  exact sfX10_readSum C B.returns hrx  ⟨hP, va_S.rf⟩ hl h
def KX10_readNot_96 (rx : Int32 → St → Option St) (r96 : Int32 → Int32 → St → Option St) (l2 : Int32) (l3 : Int32) (S : St) : Option St :=
  (if l2 ≤ l3 then some S else bv (fX10_lay ((-28)) S) fun S => vl (l3 + 1) fun x2 => (r96 l2 x2 S))
set_option maxHeartbeats 4000000 in
set_option maxRecDepth 20000 in
theorem sKX10_readNot_96 (C : Cx p s m args meth c cX10_readNot 4 RX10 G) (hr : meth.sig.returnType = none) {rx : Int32 → St → Option St} {r96 : Int32 → Int32 → St → Option St} {dx : Nat} (hrx : ∀ (a1 : Int32) (S res : St), rx a1 S = some res → Met l yX10_readExpression (wm yX10_readExpression cX10_readExpression 3 (none)) (rmL dx 0 0) (PcW G S [.ref (gR G 142), .int a1]) (QV G res) 0 0 (Ab G)) (hr96 : ∀ (l2 : Int32) (l3 : Int32) (S : St) (res : St) (H : Heap) (locs : List Loc) (ls : Array Slot), Dy G S s H locs → lv_has ls 4 [(0, .ref (gR G 142)), (2, .int l2), (3, .int l3)] → r96 l2 l3 S = some res → W p l e (rmL (dx + 15) 0 0) s m args below meth c H locs 0 0 (MQ below (QV G res) args s 0 0 (Ab G)) (F0 m 96 ls [])) {l2 : Int32} {l3 : Int32} {S : St} {res : St} {H : Heap} {locs : List Loc} {ls : Array Slot}  (hd : Dy G S s H locs) (hl : lv_has ls 4 [(0, .ref (gR G 142)), (2, .int l2), (3, .int l3)]) (h : KX10_readNot_96 rx r96 l2 l3 S = some res) : W p l e (rmL (dx + 15) 0 0) s m args below meth c H locs 0 0 (MQ below (QV G res) args s 0 0 (Ab G)) (F0 m 96 ls []) := by
  unfold KX10_readNot_96 at h
  have hx := C.1.1
  have hb := C.1.2.1
  refine lv_iload_n hx hb dX10_readNot_96 rfl (lv_at hl 2 rfl) ?_
  refine lv_iload_n hx hb dX10_readNot_97 rfl (lv_at hl 1 rfl) ?_
  refine lv_icmp_ge (tgt := 113) hx hb dX10_readNot_98 (by decide) (fun c1 => ?_) (fun c1 => ?_)
  · rw [if_pos c1] at h
    exact R_vret C hr hd h dX10_readNot_113
  · rw [if_neg c1] at h
    refine lv_aload_n hx hb dX10_readNot_101 rfl (lv_at hl 0 rfl) ?_
    refine lv_bipush (v := -28) hx hb dX10_readNot_102 (by decide) ?_
    obtain ⟨S1, hc, h⟩ := bv_some h
    refine R_cVv C hd (ccX10_lay l G  hc) kX10_257 rfl (by decide) (rfl : kd 142 = 10) hl.1 ⟨by simp only [rmL]; omega, by simp only [rmL]; omega⟩ rfl rfl (Nat.le_of_ble_eq_true rfl) dX10_readNot_104 ⟨Nat.zero_le _, Nat.zero_le _⟩ (fun H locs hd => ?_)
    generalize S1 = S at h hd
    refine R_vi h (fun x2 ex2 h => ?_)
    refine lv_iinc (v := x2) (lv' := [(3, .int x2), (0, .ref (gR G 142)), (2, .int l2)]) hx hb dX10_readNot_107 hl (k := 2) rfl (by rw [ex2]; rfl) (by decide) rfl (fun ls hl => ?_)
    refine lv_goto (tgt := 96) hx hb dX10_readNot_110 (by decide) ?_
    exact hr96 l2 x2 _ _ _ _ _  hd (lv_sub hl [1, 2, 0] rfl) h
def LX10_readNot_96 (rx : Int32 → St → Option St) : Nat → Int32 → Int32 → St → Option St
  | 0 => fun _ _ _ => none
  | n + 1 => fun l2 l3 S => KX10_readNot_96 rx (LX10_readNot_96 rx n) l2 l3 S
theorem sLX10_readNot_96 (C : Cx p s m args meth c cX10_readNot 4 RX10 G) (hr : meth.sig.returnType = none) {rx : Int32 → St → Option St} {dx : Nat} (hrx : ∀ (a1 : Int32) (S res : St), rx a1 S = some res → Met l yX10_readExpression (wm yX10_readExpression cX10_readExpression 3 (none)) (rmL dx 0 0) (PcW G S [.ref (gR G 142), .int a1]) (QV G res) 0 0 (Ab G)) : ∀ (n : Nat) (l2 : Int32) (l3 : Int32) (S : St) (res : St) (H : Heap) (locs : List Loc) (ls : Array Slot), Dy G S s H locs → lv_has ls 4 [(0, .ref (gR G 142)), (2, .int l2), (3, .int l3)] → LX10_readNot_96 rx n l2 l3 S = some res → W p l e (rmL (dx + 15) 0 0) s m args below meth c H locs 0 0 (MQ below (QV G res) args s 0 0 (Ab G)) (F0 m 96 ls []) := by
  intro n
  induction n with
  | zero => intro l2 l3 S res H locs ls  hd hl h; cases h
  | succ n ih =>
    intro l2 l3 S res H locs ls  hd hl h
    exact sKX10_readNot_96 C hr hrx ih  hd hl h
def BX10_readNot_94 (rx : Int32 → St → Option St) (l2 : Int32) (S : St) : Option St :=
  (LX10_readNot_96 rx FU l2 0 S)
set_option maxHeartbeats 4000000 in
set_option maxRecDepth 20000 in
theorem sBX10_readNot_94 (C : Cx p s m args meth c cX10_readNot 4 RX10 G) (hr : meth.sig.returnType = none) {rx : Int32 → St → Option St} {dx : Nat} (hrx : ∀ (a1 : Int32) (S res : St), rx a1 S = some res → Met l yX10_readExpression (wm yX10_readExpression cX10_readExpression 3 (none)) (rmL dx 0 0) (PcW G S [.ref (gR G 142), .int a1]) (QV G res) 0 0 (Ab G)) {l2 : Int32} {S : St} {res : St} {H : Heap} {locs : List Loc} {ls : Array Slot}  (hd : Dy G S s H locs) (hl : lv_has ls 4 [(0, .ref (gR G 142)), (2, .int l2)]) (h : BX10_readNot_94 rx l2 S = some res) : W p l e (rmL (dx + 15) 0 0) s m args below meth c H locs 0 0 (MQ below (QV G res) args s 0 0 (Ab G)) (F0 m 94 ls []) := by
  unfold BX10_readNot_94 at h
  have hx := C.1.1
  have hb := C.1.2.1
  refine lv_iconst (v := 0) hx hb dX10_readNot_94 (by decide) ?_
  refine lv_istore_n (lv' := [(3, .int 0), (0, .ref (gR G 142)), (2, .int l2)]) hx hb dX10_readNot_95 rfl hl (by decide) rfl (fun ls hl => ?_)
  exact sLX10_readNot_96 C hr hrx _ l2 0 _ _ _ _ _  hd (lv_sub hl [1, 2, 0] rfl) h
def BX10_readNot_79 (rx : Int32 → St → Option St) (l1 : Int32) (l2 : Int32) (s0 : Int32) (S : St) : Option St :=
  bv (fX10_stepOn  S) fun S => bv (fX10_readSum rx l1 S) fun S => bv (fX10_lay s0 S) fun S => (BX10_readNot_94 rx l2 S)
set_option maxHeartbeats 4000000 in
set_option maxRecDepth 20000 in
theorem sBX10_readNot_79 (C : Cx p s m args meth c cX10_readNot 4 RX10 G) (hr : meth.sig.returnType = none) {rx : Int32 → St → Option St} {dx : Nat} (hrx : ∀ (a1 : Int32) (S res : St), rx a1 S = some res → Met l yX10_readExpression (wm yX10_readExpression cX10_readExpression 3 (none)) (rmL dx 0 0) (PcW G S [.ref (gR G 142), .int a1]) (QV G res) 0 0 (Ab G)) {l1 : Int32} {l2 : Int32} {s0 : Int32} {S : St} {res : St} {H : Heap} {locs : List Loc} {ls : Array Slot}  (hd : Dy G S s H locs) (hl : lv_has ls 4 [(0, .ref (gR G 142)), (1, .int l1), (2, .int l2)]) (h : BX10_readNot_79 rx l1 l2 s0 S = some res) : W p l e (rmL (dx + 15) 0 0) s m args below meth c H locs 0 0 (MQ below (QV G res) args s 0 0 (Ab G)) (F0 m 79 ls [.int s0]) := by
  unfold BX10_readNot_79 at h
  have hx := C.1.1
  have hb := C.1.2.1
  refine lv_istore_n (lv' := [(3, .int s0), (0, .ref (gR G 142)), (1, .int l1), (2, .int l2)]) hx hb dX10_readNot_79 rfl hl (by decide) rfl (fun ls hl => ?_)
  refine lv_aload_n hx hb dX10_readNot_80 rfl (lv_at hl 1 rfl) ?_
  obtain ⟨S1, hc, h⟩ := bv_some h
  refine R_cVv C hd (ccX10_stepOn l G  hc) kX10_241 rfl (by decide) (rfl : kd 142 = 10) hl.1 ⟨by simp only [rmL]; omega, by simp only [rmL]; omega⟩ rfl rfl (Nat.le_of_ble_eq_true rfl) dX10_readNot_81 ⟨Nat.zero_le _, Nat.zero_le _⟩ (fun H locs hd => ?_)
  generalize S1 = S at h hd
  refine lv_aload_n hx hb dX10_readNot_84 rfl (lv_at hl 1 rfl) ?_
  refine lv_iload_n hx hb dX10_readNot_85 rfl (lv_at hl 2 rfl) ?_
  obtain ⟨S1, hc, h⟩ := bv_some h
  refine R_cVv C hd (ccX10_readSum l G hrx  hc) kX10_278 rfl (by decide) (rfl : kd 142 = 10) hl.1 ⟨by simp only [rmL]; omega, by simp only [rmL]; omega⟩ rfl rfl (Nat.le_of_ble_eq_true rfl) dX10_readNot_86 ⟨Nat.zero_le _, Nat.zero_le _⟩ (fun H locs hd => ?_)
  generalize S1 = S at h hd
  refine lv_aload_n hx hb dX10_readNot_89 rfl (lv_at hl 1 rfl) ?_
  refine lv_iload_n hx hb dX10_readNot_90 rfl (lv_at hl 0 rfl) ?_
  obtain ⟨S1, hc, h⟩ := bv_some h
  refine R_cVv C hd (ccX10_lay l G  hc) kX10_257 rfl (by decide) (rfl : kd 142 = 10) hl.1 ⟨by simp only [rmL]; omega, by simp only [rmL]; omega⟩ rfl rfl (Nat.le_of_ble_eq_true rfl) dX10_readNot_91 ⟨Nat.zero_le _, Nat.zero_le _⟩ (fun H locs hd => ?_)
  generalize S1 = S at h hd
  exact sBX10_readNot_94 C hr hrx  hd (lv_sub hl [1, 3] rfl) h
def BX10_readNot_63 (rx : Int32 → St → Option St) (l1 : Int32) (l2 : Int32) (S : St) : Option St :=
  bd (fX10_isMarked 60 S) fun x1 S => (if x1 = 0 then (BX10_readNot_79 rx l1 l2 ((-25)) S) else (BX10_readNot_79 rx l1 l2 ((-24)) S))
set_option maxHeartbeats 4000000 in
set_option maxRecDepth 20000 in
theorem sBX10_readNot_63 (C : Cx p s m args meth c cX10_readNot 4 RX10 G) (hr : meth.sig.returnType = none) {rx : Int32 → St → Option St} {dx : Nat} (hrx : ∀ (a1 : Int32) (S res : St), rx a1 S = some res → Met l yX10_readExpression (wm yX10_readExpression cX10_readExpression 3 (none)) (rmL dx 0 0) (PcW G S [.ref (gR G 142), .int a1]) (QV G res) 0 0 (Ab G)) {l1 : Int32} {l2 : Int32} {S : St} {res : St} {H : Heap} {locs : List Loc} {ls : Array Slot}  (hd : Dy G S s H locs) (hl : lv_has ls 4 [(0, .ref (gR G 142)), (1, .int l1), (2, .int l2)]) (h : BX10_readNot_63 rx l1 l2 S = some res) : W p l e (rmL (dx + 15) 0 0) s m args below meth c H locs 0 0 (MQ below (QV G res) args s 0 0 (Ab G)) (F0 m 63 ls []) := by
  unfold BX10_readNot_63 at h
  have hx := C.1.1
  have hb := C.1.2.1
  refine lv_aload_n hx hb dX10_readNot_63 rfl (lv_at hl 0 rfl) ?_
  refine lv_bipush (v := 60) hx hb dX10_readNot_64 (by decide) ?_
  obtain ⟨x1, S1, hc, h⟩ := bd_some h
  refine R_cVi C hd (ccX10_isMarked l G  hc) kX10_234 rfl (by decide) (rfl : kd 142 = 10) hl.1 ⟨by simp only [rmL]; omega, by simp only [rmL]; omega⟩ rfl rfl (Nat.le_of_ble_eq_true rfl) dX10_readNot_66 ⟨Nat.zero_le _, Nat.zero_le _⟩ (fun H locs hd => ?_)
  generalize S1 = S at h hd
  refine lv_if_eq (tgt := 77) hx hb dX10_readNot_69 (by decide) (fun c2 => ?_) (fun c2 => ?_)
  · rw [if_pos c2] at h
    refine lv_bipush (v := -25) hx hb dX10_readNot_77 (by decide) ?_
    exact sBX10_readNot_79 C hr hrx  hd (lv_sub hl [0, 1, 2] rfl) h
  · rw [if_neg c2] at h
    refine lv_bipush (v := -24) hx hb dX10_readNot_72 (by decide) ?_
    refine lv_goto (tgt := 79) hx hb dX10_readNot_74 (by decide) ?_
    exact sBX10_readNot_79 C hr hrx  hd (lv_sub hl [0, 1, 2] rfl) h
def BX10_readNot_23 (rx : Int32 → St → Option St) (r2 : Int32 → Int32 → St → Option St) (l1 : Int32) (l2 : Int32) (S : St) : Option St :=
  vl (l2 + 1) fun x1 => (if (S 142 24) = 0 then bv (fX10_stepOn  S) fun S => (r2 l1 x1 S) else (r2 l1 x1 S))
set_option maxHeartbeats 4000000 in
set_option maxRecDepth 20000 in
theorem sBX10_readNot_23 (C : Cx p s m args meth c cX10_readNot 4 RX10 G) (hr : meth.sig.returnType = none) {rx : Int32 → St → Option St} {r2 : Int32 → Int32 → St → Option St} {dx : Nat} (hrx : ∀ (a1 : Int32) (S res : St), rx a1 S = some res → Met l yX10_readExpression (wm yX10_readExpression cX10_readExpression 3 (none)) (rmL dx 0 0) (PcW G S [.ref (gR G 142), .int a1]) (QV G res) 0 0 (Ab G)) (hr2 : ∀ (l1 : Int32) (l2 : Int32) (S : St) (res : St) (H : Heap) (locs : List Loc) (ls : Array Slot), Dy G S s H locs → lv_has ls 4 [(0, .ref (gR G 142)), (1, .int l1), (2, .int l2)] → r2 l1 l2 S = some res → W p l e (rmL (dx + 15) 0 0) s m args below meth c H locs 0 0 (MQ below (QV G res) args s 0 0 (Ab G)) (F0 m 2 ls [])) {l1 : Int32} {l2 : Int32} {S : St} {res : St} {H : Heap} {locs : List Loc} {ls : Array Slot}  (hd : Dy G S s H locs) (hl : lv_has ls 4 [(0, .ref (gR G 142)), (1, .int l1), (2, .int l2)]) (h : BX10_readNot_23 rx r2 l1 l2 S = some res) : W p l e (rmL (dx + 15) 0 0) s m args below meth c H locs 0 0 (MQ below (QV G res) args s 0 0 (Ab G)) (F0 m 23 ls []) := by
  unfold BX10_readNot_23 at h
  have hx := C.1.1
  have hb := C.1.2.1
  refine R_vi h (fun x1 ex1 h => ?_)
  refine lv_iinc (v := x1) (lv' := [(2, .int x1), (0, .ref (gR G 142)), (1, .int l1)]) hx hb dX10_readNot_23 hl (k := 2) rfl (by rw [ex1]; rfl) (by decide) rfl (fun ls hl => ?_)
  refine lv_aload_n hx hb dX10_readNot_26 rfl (lv_at hl 1 rfl) ?_
  refine gX10_216 C hd (rfl : kd 142 = 10) dX10_readNot_27 ?_
  refine lv_if_ne (tgt := 2) hx hb dX10_readNot_30 (by decide) (fun c2 => ?_) (fun c2 => ?_)
  · rw [if_neg c2] at h
    exact hr2 l1 x1 _ _ _ _ _  hd (lv_sub hl [1, 2, 0] rfl) h
  · rw [if_pos c2] at h
    refine lv_aload_n hx hb dX10_readNot_33 rfl (lv_at hl 1 rfl) ?_
    obtain ⟨S1, hc, h⟩ := bv_some h
    refine R_cVv C hd (ccX10_stepOn l G  hc) kX10_241 rfl (by decide) (rfl : kd 142 = 10) hl.1 ⟨by simp only [rmL]; omega, by simp only [rmL]; omega⟩ rfl rfl (Nat.le_of_ble_eq_true rfl) dX10_readNot_34 ⟨Nat.zero_le _, Nat.zero_le _⟩ (fun H locs hd => ?_)
    generalize S1 = S at h hd
    refine lv_goto (tgt := 2) hx hb dX10_readNot_37 (by decide) ?_
    exact hr2 l1 x1 _ _ _ _ _  hd (lv_sub hl [1, 2, 0] rfl) h
def KX10_readNot_2 (rx : Int32 → St → Option St) (r2 : Int32 → Int32 → St → Option St) (l1 : Int32) (l2 : Int32) (S : St) : Option St :=
  bd (fX10_is 7 S) fun x1 S => (if x1 = 0 then bv (fX10_readSum rx l1 S) fun S => bd (fX10_isMarked 60 S) fun x3 S => (if x3 = 0 then bd (fX10_isMarked 61 S) fun x5 S => (if x5 = 0 then (BX10_readNot_94 rx l2 S) else (BX10_readNot_63 rx l1 l2 S)) else (BX10_readNot_63 rx l1 l2 S)) else (if l2 = 6 then bv (fX10_wrong 2 S) fun S => (BX10_readNot_23 rx r2 l1 l2 S) else (BX10_readNot_23 rx r2 l1 l2 S)))
set_option maxHeartbeats 4000000 in
set_option maxRecDepth 20000 in
theorem sKX10_readNot_2 (C : Cx p s m args meth c cX10_readNot 4 RX10 G) (hr : meth.sig.returnType = none) {rx : Int32 → St → Option St} {r2 : Int32 → Int32 → St → Option St} {dx : Nat} (hrx : ∀ (a1 : Int32) (S res : St), rx a1 S = some res → Met l yX10_readExpression (wm yX10_readExpression cX10_readExpression 3 (none)) (rmL dx 0 0) (PcW G S [.ref (gR G 142), .int a1]) (QV G res) 0 0 (Ab G)) (hr2 : ∀ (l1 : Int32) (l2 : Int32) (S : St) (res : St) (H : Heap) (locs : List Loc) (ls : Array Slot), Dy G S s H locs → lv_has ls 4 [(0, .ref (gR G 142)), (1, .int l1), (2, .int l2)] → r2 l1 l2 S = some res → W p l e (rmL (dx + 15) 0 0) s m args below meth c H locs 0 0 (MQ below (QV G res) args s 0 0 (Ab G)) (F0 m 2 ls [])) {l1 : Int32} {l2 : Int32} {S : St} {res : St} {H : Heap} {locs : List Loc} {ls : Array Slot}  (hd : Dy G S s H locs) (hl : lv_has ls 4 [(0, .ref (gR G 142)), (1, .int l1), (2, .int l2)]) (h : KX10_readNot_2 rx r2 l1 l2 S = some res) : W p l e (rmL (dx + 15) 0 0) s m args below meth c H locs 0 0 (MQ below (QV G res) args s 0 0 (Ab G)) (F0 m 2 ls []) := by
  unfold KX10_readNot_2 at h
  have hx := C.1.1
  have hb := C.1.2.1
  refine lv_aload_n hx hb dX10_readNot_2 rfl (lv_at hl 0 rfl) ?_
  refine R_ldcSW hx hb C.1.2.2.2.1 (C.2.2.2.2.1 ("SongFieldsModel", 276, "not", 7) (List.mem_of_getElem? (i := 42) rfl)) dX10_readNot_3 ?_
  obtain ⟨x1, S1, hc, h⟩ := bd_some h
  refine R_cVi C hd (ccX10_is l G  hc) kX10_230 rfl (by decide) (rfl : kd 142 = 10) hl.1 ⟨by simp only [rmL]; omega, by simp only [rmL]; omega⟩ rfl rfl (Nat.le_of_ble_eq_true rfl) dX10_readNot_6 ⟨Nat.zero_le _, Nat.zero_le _⟩ (fun H locs hd => ?_)
  generalize S1 = S at h hd
  refine lv_if_eq (tgt := 40) hx hb dX10_readNot_9 (by decide) (fun c2 => ?_) (fun c2 => ?_)
  · rw [if_pos c2] at h
    refine lv_aload_n hx hb dX10_readNot_40 rfl (lv_at hl 0 rfl) ?_
    refine lv_iload_n hx hb dX10_readNot_41 rfl (lv_at hl 1 rfl) ?_
    obtain ⟨S1, hc, h⟩ := bv_some h
    refine R_cVv C hd (ccX10_readSum l G hrx  hc) kX10_278 rfl (by decide) (rfl : kd 142 = 10) hl.1 ⟨by simp only [rmL]; omega, by simp only [rmL]; omega⟩ rfl rfl (Nat.le_of_ble_eq_true rfl) dX10_readNot_42 ⟨Nat.zero_le _, Nat.zero_le _⟩ (fun H locs hd => ?_)
    generalize S1 = S at h hd
    refine lv_aload_n hx hb dX10_readNot_45 rfl (lv_at hl 0 rfl) ?_
    refine lv_bipush (v := 60) hx hb dX10_readNot_46 (by decide) ?_
    obtain ⟨x3, S1, hc, h⟩ := bd_some h
    refine R_cVi C hd (ccX10_isMarked l G  hc) kX10_234 rfl (by decide) (rfl : kd 142 = 10) hl.1 ⟨by simp only [rmL]; omega, by simp only [rmL]; omega⟩ rfl rfl (Nat.le_of_ble_eq_true rfl) dX10_readNot_48 ⟨Nat.zero_le _, Nat.zero_le _⟩ (fun H locs hd => ?_)
    generalize S1 = S at h hd
    refine lv_if_ne (tgt := 63) hx hb dX10_readNot_51 (by decide) (fun c4 => ?_) (fun c4 => ?_)
    · rw [if_neg c4] at h
      exact sBX10_readNot_63 C hr hrx  hd (lv_sub hl [0, 1, 2] rfl) h
    · rw [if_pos c4] at h
      refine lv_aload_n hx hb dX10_readNot_54 rfl (lv_at hl 0 rfl) ?_
      refine lv_bipush (v := 61) hx hb dX10_readNot_55 (by decide) ?_
      obtain ⟨x5, S1, hc, h⟩ := bd_some h
      refine R_cVi C hd (ccX10_isMarked l G  hc) kX10_234 rfl (by decide) (rfl : kd 142 = 10) hl.1 ⟨by simp only [rmL]; omega, by simp only [rmL]; omega⟩ rfl rfl (Nat.le_of_ble_eq_true rfl) dX10_readNot_57 ⟨Nat.zero_le _, Nat.zero_le _⟩ (fun H locs hd => ?_)
      generalize S1 = S at h hd
      refine lv_if_eq (tgt := 94) hx hb dX10_readNot_60 (by decide) (fun c6 => ?_) (fun c6 => ?_)
      · rw [if_pos c6] at h
        exact sBX10_readNot_94 C hr hrx  hd (lv_sub hl [0, 2] rfl) h
      · rw [if_neg c6] at h
        exact sBX10_readNot_63 C hr hrx  hd (lv_sub hl [0, 1, 2] rfl) h
  · rw [if_neg c2] at h
    refine lv_iload_n hx hb dX10_readNot_12 rfl (lv_at hl 2 rfl) ?_
    refine lv_bipush (v := 6) hx hb dX10_readNot_13 (by decide) ?_
    refine lv_icmp_ne (tgt := 23) hx hb dX10_readNot_15 (by decide) (fun c7 => ?_) (fun c7 => ?_)
    · rw [if_neg c7] at h
      exact sBX10_readNot_23 C hr hrx hr2  hd (lv_sub hl [0, 1, 2] rfl) h
    · rw [if_pos c7] at h
      refine lv_aload_n hx hb dX10_readNot_18 rfl (lv_at hl 0 rfl) ?_
      refine lv_iconst (v := 2) hx hb dX10_readNot_19 (by decide) ?_
      obtain ⟨S1, hc, h⟩ := bv_some h
      refine R_cVv C hd (ccX10_wrong l G  hc) kX10_237 rfl (by decide) (rfl : kd 142 = 10) hl.1 ⟨by simp only [rmL]; omega, by simp only [rmL]; omega⟩ rfl rfl (Nat.le_of_ble_eq_true rfl) dX10_readNot_20 ⟨Nat.zero_le _, Nat.zero_le _⟩ (fun H locs hd => ?_)
      generalize S1 = S at h hd
      exact sBX10_readNot_23 C hr hrx hr2  hd (lv_sub hl [0, 1, 2] rfl) h
def LX10_readNot_2 (rx : Int32 → St → Option St) : Nat → Int32 → Int32 → St → Option St
  | 0 => fun _ _ _ => none
  | n + 1 => fun l1 l2 S => KX10_readNot_2 rx (LX10_readNot_2 rx n) l1 l2 S
theorem sLX10_readNot_2 (C : Cx p s m args meth c cX10_readNot 4 RX10 G) (hr : meth.sig.returnType = none) {rx : Int32 → St → Option St} {dx : Nat} (hrx : ∀ (a1 : Int32) (S res : St), rx a1 S = some res → Met l yX10_readExpression (wm yX10_readExpression cX10_readExpression 3 (none)) (rmL dx 0 0) (PcW G S [.ref (gR G 142), .int a1]) (QV G res) 0 0 (Ab G)) : ∀ (n : Nat) (l1 : Int32) (l2 : Int32) (S : St) (res : St) (H : Heap) (locs : List Loc) (ls : Array Slot), Dy G S s H locs → lv_has ls 4 [(0, .ref (gR G 142)), (1, .int l1), (2, .int l2)] → LX10_readNot_2 rx n l1 l2 S = some res → W p l e (rmL (dx + 15) 0 0) s m args below meth c H locs 0 0 (MQ below (QV G res) args s 0 0 (Ab G)) (F0 m 2 ls []) := by
  intro n
  induction n with
  | zero => intro l1 l2 S res H locs ls  hd hl h; cases h
  | succ n ih =>
    intro l1 l2 S res H locs ls  hd hl h
    exact sKX10_readNot_2 C hr hrx ih  hd hl h
def fX10_readNot (rx : Int32 → St → Option St) (a1 : Int32) (S : St) : Option St :=
  (LX10_readNot_2 rx FU a1 0 S)
set_option maxHeartbeats 4000000 in
set_option maxRecDepth 20000 in
theorem sfX10_readNot (C : Cx p s m args meth c cX10_readNot 4 RX10 G) (hr : meth.sig.returnType = none) {rx : Int32 → St → Option St} {dx : Nat} (hrx : ∀ (a1 : Int32) (S res : St), rx a1 S = some res → Met l yX10_readExpression (wm yX10_readExpression cX10_readExpression 3 (none)) (rmL dx 0 0) (PcW G S [.ref (gR G 142), .int a1]) (QV G res) 0 0 (Ab G)) {a1 : Int32} {S : St} {res : St} {H : Heap} {locs : List Loc} {ls : Array Slot}  (hd : Dy G S s H locs) (hl : lv_has ls 4 [(0, .ref (gR G 142)), (1, .int a1)]) (h : fX10_readNot rx a1 S = some res) : W p l e (rmL (dx + 15) 0 0) s m args below meth c H locs 0 0 (MQ below (QV G res) args s 0 0 (Ab G)) (F0 m 0 ls []) := by
  unfold fX10_readNot at h
  have hx := C.1.1
  have hb := C.1.2.1
  refine lv_iconst (v := 0) hx hb dX10_readNot_0 (by decide) ?_
  refine lv_istore_n (lv' := [(2, .int 0), (0, .ref (gR G 142)), (1, .int a1)]) hx hb dX10_readNot_1 rfl hl (by decide) rfl (fun ls hl => ?_)
  exact sLX10_readNot_2 C hr hrx _ a1 0 _ _ _ _ _  hd (lv_sub hl [1, 2, 0] rfl) h
set_option maxRecDepth 20000 in
theorem ccX10_readNot (l : Launch) (G : Gt) {rx : Int32 → St → Option St} {dx : Nat} (hrx : ∀ (a1 : Int32) (S res : St), rx a1 S = some res → Met l yX10_readExpression (wm yX10_readExpression cX10_readExpression 3 (none)) (rmL dx 0 0) (PcW G S [.ref (gR G 142), .int a1]) (QV G res) 0 0 (Ab G)) {a1 : Int32} {S : St} {res : St}  (h : fX10_readNot rx a1 S = some res) : Met l yX10_readNot (wm yX10_readNot cX10_readNot 4 (none)) (rmL (dx + 15) 0 0) (PcW G S [.ref (gR G 142), .int a1]) (QV G res) 0 0 (Ab G) := by
  refine Met.ofW (cc := cX10_readNot) (maxL := 4) (ret := none) (by decide) rfl ?_
  intro p e s m args below meth c s₁ B hml hv
  obtain ⟨rfl, hK, hP⟩ := hv
  have C : Cx p s m _ meth c cX10_readNot 4 RX10 G := ⟨⟨B.exec, B.bytes, hml, findClass_of_methodNamed B.named, fun w hw => atoms_spec (ws := wm yX10_readNot cX10_readNot 4 (none)) B.pre w (List.mem_cons_of_mem _ hw)⟩, B.notSynchronized, hK⟩
  have hl := lv_entry ([.ref (gR G 142), .int a1]) (n := 4) (Nat.le_of_ble_eq_true rfl)
  rw [lg_entry_eq]
  generalize (lg_sl ([.ref (gR G 142), .int a1]) ++ List.replicate (4 - (lg_sl ([.ref (gR G 142), .int a1])).length) Slot.unset).toArray = ls at hl ⊢
  exact sfX10_readNot C B.returns hrx  ⟨hP, va_S.rf⟩ hl h
def KX10_readAnd_5 (rx : Int32 → St → Option St) (r5 : Int32 → St → Option St) (l1 : Int32) (S : St) : Option St :=
  bd (fX10_is 16 S) fun x1 S => (if x1 = 0 then some S else bv (fX10_stepOn  S) fun S => bv (fX10_readNot rx l1 S) fun S => bv (fX10_lay ((-26)) S) fun S => (r5 l1 S))
set_option maxHeartbeats 4000000 in
set_option maxRecDepth 20000 in
theorem sKX10_readAnd_5 (C : Cx p s m args meth c cX10_readAnd 2 RX10 G) (hr : meth.sig.returnType = none) {rx : Int32 → St → Option St} {r5 : Int32 → St → Option St} {dx : Nat} (hrx : ∀ (a1 : Int32) (S res : St), rx a1 S = some res → Met l yX10_readExpression (wm yX10_readExpression cX10_readExpression 3 (none)) (rmL dx 0 0) (PcW G S [.ref (gR G 142), .int a1]) (QV G res) 0 0 (Ab G)) (hr5 : ∀ (l1 : Int32) (S : St) (res : St) (H : Heap) (locs : List Loc) (ls : Array Slot), Dy G S s H locs → lv_has ls 2 [(0, .ref (gR G 142)), (1, .int l1)] → r5 l1 S = some res → W p l e (rmL (dx + 16) 0 0) s m args below meth c H locs 0 0 (MQ below (QV G res) args s 0 0 (Ab G)) (F0 m 5 ls [])) {l1 : Int32} {S : St} {res : St} {H : Heap} {locs : List Loc} {ls : Array Slot}  (hd : Dy G S s H locs) (hl : lv_has ls 2 [(0, .ref (gR G 142)), (1, .int l1)]) (h : KX10_readAnd_5 rx r5 l1 S = some res) : W p l e (rmL (dx + 16) 0 0) s m args below meth c H locs 0 0 (MQ below (QV G res) args s 0 0 (Ab G)) (F0 m 5 ls []) := by
  unfold KX10_readAnd_5 at h
  have hx := C.1.1
  have hb := C.1.2.1
  refine lv_aload_n hx hb dX10_readAnd_5 rfl (lv_at hl 0 rfl) ?_
  refine R_ldcSW hx hb C.1.2.2.2.1 (C.2.2.2.2.1 ("SongFieldsModel", 284, "and", 16) (List.mem_of_getElem? (i := 43) rfl)) dX10_readAnd_6 ?_
  obtain ⟨x1, S1, hc, h⟩ := bd_some h
  refine R_cVi C hd (ccX10_is l G  hc) kX10_230 rfl (by decide) (rfl : kd 142 = 10) hl.1 ⟨by simp only [rmL]; omega, by simp only [rmL]; omega⟩ rfl rfl (Nat.le_of_ble_eq_true rfl) dX10_readAnd_9 ⟨Nat.zero_le _, Nat.zero_le _⟩ (fun H locs hd => ?_)
  generalize S1 = S at h hd
  refine lv_if_eq (tgt := 33) hx hb dX10_readAnd_12 (by decide) (fun c2 => ?_) (fun c2 => ?_)
  · rw [if_pos c2] at h
    exact R_vret C hr hd h dX10_readAnd_33
  · rw [if_neg c2] at h
    refine lv_aload_n hx hb dX10_readAnd_15 rfl (lv_at hl 0 rfl) ?_
    obtain ⟨S1, hc, h⟩ := bv_some h
    refine R_cVv C hd (ccX10_stepOn l G  hc) kX10_241 rfl (by decide) (rfl : kd 142 = 10) hl.1 ⟨by simp only [rmL]; omega, by simp only [rmL]; omega⟩ rfl rfl (Nat.le_of_ble_eq_true rfl) dX10_readAnd_16 ⟨Nat.zero_le _, Nat.zero_le _⟩ (fun H locs hd => ?_)
    generalize S1 = S at h hd
    refine lv_aload_n hx hb dX10_readAnd_19 rfl (lv_at hl 0 rfl) ?_
    refine lv_iload_n hx hb dX10_readAnd_20 rfl (lv_at hl 1 rfl) ?_
    obtain ⟨S1, hc, h⟩ := bv_some h
    refine R_cVv C hd (ccX10_readNot l G hrx  hc) kX10_281 rfl (by decide) (rfl : kd 142 = 10) hl.1 ⟨by simp only [rmL]; omega, by simp only [rmL]; omega⟩ rfl rfl (Nat.le_of_ble_eq_true rfl) dX10_readAnd_21 ⟨Nat.zero_le _, Nat.zero_le _⟩ (fun H locs hd => ?_)
    generalize S1 = S at h hd
    refine lv_aload_n hx hb dX10_readAnd_24 rfl (lv_at hl 0 rfl) ?_
    refine lv_bipush (v := -26) hx hb dX10_readAnd_25 (by decide) ?_
    obtain ⟨S1, hc, h⟩ := bv_some h
    refine R_cVv C hd (ccX10_lay l G  hc) kX10_257 rfl (by decide) (rfl : kd 142 = 10) hl.1 ⟨by simp only [rmL]; omega, by simp only [rmL]; omega⟩ rfl rfl (Nat.le_of_ble_eq_true rfl) dX10_readAnd_27 ⟨Nat.zero_le _, Nat.zero_le _⟩ (fun H locs hd => ?_)
    generalize S1 = S at h hd
    refine lv_goto (tgt := 5) hx hb dX10_readAnd_30 (by decide) ?_
    exact hr5 l1 _ _ _ _ _  hd (lv_sub hl [0, 1] rfl) h
def LX10_readAnd_5 (rx : Int32 → St → Option St) : Nat → Int32 → St → Option St
  | 0 => fun _ _ => none
  | n + 1 => fun l1 S => KX10_readAnd_5 rx (LX10_readAnd_5 rx n) l1 S
theorem sLX10_readAnd_5 (C : Cx p s m args meth c cX10_readAnd 2 RX10 G) (hr : meth.sig.returnType = none) {rx : Int32 → St → Option St} {dx : Nat} (hrx : ∀ (a1 : Int32) (S res : St), rx a1 S = some res → Met l yX10_readExpression (wm yX10_readExpression cX10_readExpression 3 (none)) (rmL dx 0 0) (PcW G S [.ref (gR G 142), .int a1]) (QV G res) 0 0 (Ab G)) : ∀ (n : Nat) (l1 : Int32) (S : St) (res : St) (H : Heap) (locs : List Loc) (ls : Array Slot), Dy G S s H locs → lv_has ls 2 [(0, .ref (gR G 142)), (1, .int l1)] → LX10_readAnd_5 rx n l1 S = some res → W p l e (rmL (dx + 16) 0 0) s m args below meth c H locs 0 0 (MQ below (QV G res) args s 0 0 (Ab G)) (F0 m 5 ls []) := by
  intro n
  induction n with
  | zero => intro l1 S res H locs ls  hd hl h; cases h
  | succ n ih =>
    intro l1 S res H locs ls  hd hl h
    exact sKX10_readAnd_5 C hr hrx ih  hd hl h
def fX10_readAnd (rx : Int32 → St → Option St) (a1 : Int32) (S : St) : Option St :=
  bv (fX10_readNot rx a1 S) fun S => (LX10_readAnd_5 rx FU a1 S)
set_option maxHeartbeats 4000000 in
set_option maxRecDepth 20000 in
theorem sfX10_readAnd (C : Cx p s m args meth c cX10_readAnd 2 RX10 G) (hr : meth.sig.returnType = none) {rx : Int32 → St → Option St} {dx : Nat} (hrx : ∀ (a1 : Int32) (S res : St), rx a1 S = some res → Met l yX10_readExpression (wm yX10_readExpression cX10_readExpression 3 (none)) (rmL dx 0 0) (PcW G S [.ref (gR G 142), .int a1]) (QV G res) 0 0 (Ab G)) {a1 : Int32} {S : St} {res : St} {H : Heap} {locs : List Loc} {ls : Array Slot}  (hd : Dy G S s H locs) (hl : lv_has ls 2 [(0, .ref (gR G 142)), (1, .int a1)]) (h : fX10_readAnd rx a1 S = some res) : W p l e (rmL (dx + 16) 0 0) s m args below meth c H locs 0 0 (MQ below (QV G res) args s 0 0 (Ab G)) (F0 m 0 ls []) := by
  unfold fX10_readAnd at h
  have hx := C.1.1
  have hb := C.1.2.1
  refine lv_aload_n hx hb dX10_readAnd_0 rfl (lv_at hl 0 rfl) ?_
  refine lv_iload_n hx hb dX10_readAnd_1 rfl (lv_at hl 1 rfl) ?_
  obtain ⟨S1, hc, h⟩ := bv_some h
  refine R_cVv C hd (ccX10_readNot l G hrx  hc) kX10_281 rfl (by decide) (rfl : kd 142 = 10) hl.1 ⟨by simp only [rmL]; omega, by simp only [rmL]; omega⟩ rfl rfl (Nat.le_of_ble_eq_true rfl) dX10_readAnd_2 ⟨Nat.zero_le _, Nat.zero_le _⟩ (fun H locs hd => ?_)
  generalize S1 = S at h hd
  exact sLX10_readAnd_5 C hr hrx _ a1 _ _ _ _ _  hd (lv_sub hl [0, 1] rfl) h
set_option maxRecDepth 20000 in
theorem ccX10_readAnd (l : Launch) (G : Gt) {rx : Int32 → St → Option St} {dx : Nat} (hrx : ∀ (a1 : Int32) (S res : St), rx a1 S = some res → Met l yX10_readExpression (wm yX10_readExpression cX10_readExpression 3 (none)) (rmL dx 0 0) (PcW G S [.ref (gR G 142), .int a1]) (QV G res) 0 0 (Ab G)) {a1 : Int32} {S : St} {res : St}  (h : fX10_readAnd rx a1 S = some res) : Met l yX10_readAnd (wm yX10_readAnd cX10_readAnd 2 (none)) (rmL (dx + 16) 0 0) (PcW G S [.ref (gR G 142), .int a1]) (QV G res) 0 0 (Ab G) := by
  refine Met.ofW (cc := cX10_readAnd) (maxL := 2) (ret := none) (by decide) rfl ?_
  intro p e s m args below meth c s₁ B hml hv
  obtain ⟨rfl, hK, hP⟩ := hv
  have C : Cx p s m _ meth c cX10_readAnd 2 RX10 G := ⟨⟨B.exec, B.bytes, hml, findClass_of_methodNamed B.named, fun w hw => atoms_spec (ws := wm yX10_readAnd cX10_readAnd 2 (none)) B.pre w (List.mem_cons_of_mem _ hw)⟩, B.notSynchronized, hK⟩
  have hl := lv_entry ([.ref (gR G 142), .int a1]) (n := 2) (Nat.le_of_ble_eq_true rfl)
  rw [lg_entry_eq]
  generalize (lg_sl ([.ref (gR G 142), .int a1]) ++ List.replicate (2 - (lg_sl ([.ref (gR G 142), .int a1])).length) Slot.unset).toArray = ls at hl ⊢
  exact sfX10_readAnd C B.returns hrx  ⟨hP, va_S.rf⟩ hl h
def KX10_readExpression_67 (rx : Int32 → St → Option St) (r67 : Int32 → St → Option St) (l1 : Int32) (S : St) : Option St :=
  bd (fX10_is 15 S) fun x1 S => (if x1 = 0 then some S else bv (fX10_stepOn  S) fun S => bv (fX10_readAnd rx l1 S) fun S => bv (fX10_lay ((-27)) S) fun S => (r67 l1 S))
set_option maxHeartbeats 4000000 in
set_option maxRecDepth 20000 in
theorem sKX10_readExpression_67 (C : Cx p s m args meth c cX10_readExpression 3 RX10 G) (hr : meth.sig.returnType = none) {rx : Int32 → St → Option St} {r67 : Int32 → St → Option St} {dx : Nat} (hrx : ∀ (a1 : Int32) (S res : St), rx a1 S = some res → Met l yX10_readExpression (wm yX10_readExpression cX10_readExpression 3 (none)) (rmL dx 0 0) (PcW G S [.ref (gR G 142), .int a1]) (QV G res) 0 0 (Ab G)) (hr67 : ∀ (l1 : Int32) (S : St) (res : St) (H : Heap) (locs : List Loc) (ls : Array Slot), Dy G S s H locs → lv_has ls 3 [(0, .ref (gR G 142)), (1, .int l1)] → r67 l1 S = some res → W p l e (rmL (dx + 17) 0 0) s m args below meth c H locs 0 0 (MQ below (QV G res) args s 0 0 (Ab G)) (F0 m 67 ls [])) {l1 : Int32} {S : St} {res : St} {H : Heap} {locs : List Loc} {ls : Array Slot}  (hd : Dy G S s H locs) (hl : lv_has ls 3 [(0, .ref (gR G 142)), (1, .int l1)]) (h : KX10_readExpression_67 rx r67 l1 S = some res) : W p l e (rmL (dx + 17) 0 0) s m args below meth c H locs 0 0 (MQ below (QV G res) args s 0 0 (Ab G)) (F0 m 67 ls []) := by
  unfold KX10_readExpression_67 at h
  have hx := C.1.1
  have hb := C.1.2.1
  refine lv_aload_n hx hb dX10_readExpression_67 rfl (lv_at hl 0 rfl) ?_
  refine R_ldcSW hx hb C.1.2.2.2.1 (C.2.2.2.2.1 ("SongFieldsModel", 289, "or", 15) (List.mem_of_getElem? (i := 44) rfl)) dX10_readExpression_68 ?_
  obtain ⟨x1, S1, hc, h⟩ := bd_some h
  refine R_cVi C hd (ccX10_is l G  hc) kX10_230 rfl (by decide) (rfl : kd 142 = 10) hl.1 ⟨by simp only [rmL]; omega, by simp only [rmL]; omega⟩ rfl rfl (Nat.le_of_ble_eq_true rfl) dX10_readExpression_71 ⟨Nat.zero_le _, Nat.zero_le _⟩ (fun H locs hd => ?_)
  generalize S1 = S at h hd
  refine lv_if_eq (tgt := 95) hx hb dX10_readExpression_74 (by decide) (fun c2 => ?_) (fun c2 => ?_)
  · rw [if_pos c2] at h
    exact R_vret C hr hd h dX10_readExpression_95
  · rw [if_neg c2] at h
    refine lv_aload_n hx hb dX10_readExpression_77 rfl (lv_at hl 0 rfl) ?_
    obtain ⟨S1, hc, h⟩ := bv_some h
    refine R_cVv C hd (ccX10_stepOn l G  hc) kX10_241 rfl (by decide) (rfl : kd 142 = 10) hl.1 ⟨by simp only [rmL]; omega, by simp only [rmL]; omega⟩ rfl rfl (Nat.le_of_ble_eq_true rfl) dX10_readExpression_78 ⟨Nat.zero_le _, Nat.zero_le _⟩ (fun H locs hd => ?_)
    generalize S1 = S at h hd
    refine lv_aload_n hx hb dX10_readExpression_81 rfl (lv_at hl 0 rfl) ?_
    refine lv_iload_n hx hb dX10_readExpression_82 rfl (lv_at hl 1 rfl) ?_
    obtain ⟨S1, hc, h⟩ := bv_some h
    refine R_cVv C hd (ccX10_readAnd l G hrx  hc) kX10_286 rfl (by decide) (rfl : kd 142 = 10) hl.1 ⟨by simp only [rmL]; omega, by simp only [rmL]; omega⟩ rfl rfl (Nat.le_of_ble_eq_true rfl) dX10_readExpression_83 ⟨Nat.zero_le _, Nat.zero_le _⟩ (fun H locs hd => ?_)
    generalize S1 = S at h hd
    refine lv_aload_n hx hb dX10_readExpression_86 rfl (lv_at hl 0 rfl) ?_
    refine lv_bipush (v := -27) hx hb dX10_readExpression_87 (by decide) ?_
    obtain ⟨S1, hc, h⟩ := bv_some h
    refine R_cVv C hd (ccX10_lay l G  hc) kX10_257 rfl (by decide) (rfl : kd 142 = 10) hl.1 ⟨by simp only [rmL]; omega, by simp only [rmL]; omega⟩ rfl rfl (Nat.le_of_ble_eq_true rfl) dX10_readExpression_89 ⟨Nat.zero_le _, Nat.zero_le _⟩ (fun H locs hd => ?_)
    generalize S1 = S at h hd
    refine lv_goto (tgt := 67) hx hb dX10_readExpression_92 (by decide) ?_
    exact hr67 l1 _ _ _ _ _  hd (lv_sub hl [0, 1] rfl) h
def LX10_readExpression_67 (rx : Int32 → St → Option St) : Nat → Int32 → St → Option St
  | 0 => fun _ _ => none
  | n + 1 => fun l1 S => KX10_readExpression_67 rx (LX10_readExpression_67 rx n) l1 S
theorem sLX10_readExpression_67 (C : Cx p s m args meth c cX10_readExpression 3 RX10 G) (hr : meth.sig.returnType = none) {rx : Int32 → St → Option St} {dx : Nat} (hrx : ∀ (a1 : Int32) (S res : St), rx a1 S = some res → Met l yX10_readExpression (wm yX10_readExpression cX10_readExpression 3 (none)) (rmL dx 0 0) (PcW G S [.ref (gR G 142), .int a1]) (QV G res) 0 0 (Ab G)) : ∀ (n : Nat) (l1 : Int32) (S : St) (res : St) (H : Heap) (locs : List Loc) (ls : Array Slot), Dy G S s H locs → lv_has ls 3 [(0, .ref (gR G 142)), (1, .int l1)] → LX10_readExpression_67 rx n l1 S = some res → W p l e (rmL (dx + 17) 0 0) s m args below meth c H locs 0 0 (MQ below (QV G res) args s 0 0 (Ab G)) (F0 m 67 ls []) := by
  intro n
  induction n with
  | zero => intro l1 S res H locs ls  hd hl h; cases h
  | succ n ih =>
    intro l1 S res H locs ls  hd hl h
    exact sKX10_readExpression_67 C hr hrx ih  hd hl h
def BX10_readExpression_62 (rx : Int32 → St → Option St) (l1 : Int32) (S : St) : Option St :=
  bv (fX10_readAnd rx l1 S) fun S => (LX10_readExpression_67 rx FU l1 S)
set_option maxHeartbeats 4000000 in
set_option maxRecDepth 20000 in
theorem sBX10_readExpression_62 (C : Cx p s m args meth c cX10_readExpression 3 RX10 G) (hr : meth.sig.returnType = none) {rx : Int32 → St → Option St} {dx : Nat} (hrx : ∀ (a1 : Int32) (S res : St), rx a1 S = some res → Met l yX10_readExpression (wm yX10_readExpression cX10_readExpression 3 (none)) (rmL dx 0 0) (PcW G S [.ref (gR G 142), .int a1]) (QV G res) 0 0 (Ab G)) {l1 : Int32} {S : St} {res : St} {H : Heap} {locs : List Loc} {ls : Array Slot}  (hd : Dy G S s H locs) (hl : lv_has ls 3 [(0, .ref (gR G 142)), (1, .int l1)]) (h : BX10_readExpression_62 rx l1 S = some res) : W p l e (rmL (dx + 17) 0 0) s m args below meth c H locs 0 0 (MQ below (QV G res) args s 0 0 (Ab G)) (F0 m 62 ls []) := by
  unfold BX10_readExpression_62 at h
  have hx := C.1.1
  have hb := C.1.2.1
  refine lv_aload_n hx hb dX10_readExpression_62 rfl (lv_at hl 0 rfl) ?_
  refine lv_iload_n hx hb dX10_readExpression_63 rfl (lv_at hl 1 rfl) ?_
  obtain ⟨S1, hc, h⟩ := bv_some h
  refine R_cVv C hd (ccX10_readAnd l G hrx  hc) kX10_286 rfl (by decide) (rfl : kd 142 = 10) hl.1 ⟨by simp only [rmL]; omega, by simp only [rmL]; omega⟩ rfl rfl (Nat.le_of_ble_eq_true rfl) dX10_readExpression_64 ⟨Nat.zero_le _, Nat.zero_le _⟩ (fun H locs hd => ?_)
  generalize S1 = S at h hd
  exact sLX10_readExpression_67 C hr hrx _ l1 _ _ _ _ _  hd (lv_sub hl [0, 1] rfl) h
def BX10_readExpression_38 (rx : Int32 → St → Option St) (l1 : Int32) (s0 : Int32) (S : St) : Option St :=
  (if s0 = 0 then bv (fX10_wrong 1 S) fun S => (BX10_readExpression_62 rx l1 S) else (if l1 = 6 then bv (fX10_wrong 2 S) fun S => (BX10_readExpression_62 rx l1 S) else (BX10_readExpression_62 rx l1 S)))
set_option maxHeartbeats 4000000 in
set_option maxRecDepth 20000 in
theorem sBX10_readExpression_38 (C : Cx p s m args meth c cX10_readExpression 3 RX10 G) (hr : meth.sig.returnType = none) {rx : Int32 → St → Option St} {dx : Nat} (hrx : ∀ (a1 : Int32) (S res : St), rx a1 S = some res → Met l yX10_readExpression (wm yX10_readExpression cX10_readExpression 3 (none)) (rmL dx 0 0) (PcW G S [.ref (gR G 142), .int a1]) (QV G res) 0 0 (Ab G)) {l1 : Int32} {s0 : Int32} {S : St} {res : St} {H : Heap} {locs : List Loc} {ls : Array Slot}  (hd : Dy G S s H locs) (hl : lv_has ls 3 [(0, .ref (gR G 142)), (1, .int l1)]) (h : BX10_readExpression_38 rx l1 s0 S = some res) : W p l e (rmL (dx + 17) 0 0) s m args below meth c H locs 0 0 (MQ below (QV G res) args s 0 0 (Ab G)) (F0 m 38 ls [.int s0]) := by
  unfold BX10_readExpression_38 at h
  have hx := C.1.1
  have hb := C.1.2.1
  refine lv_istore_n (lv' := [(2, .int s0), (0, .ref (gR G 142)), (1, .int l1)]) hx hb dX10_readExpression_38 rfl hl (by decide) rfl (fun ls hl => ?_)
  refine lv_iload_n hx hb dX10_readExpression_39 rfl (lv_at hl 0 rfl) ?_
  refine lv_if_ne (tgt := 51) hx hb dX10_readExpression_40 (by decide) (fun c1 => ?_) (fun c1 => ?_)
  · rw [if_neg c1] at h
    refine lv_iload_n hx hb dX10_readExpression_51 rfl (lv_at hl 2 rfl) ?_
    refine lv_bipush (v := 6) hx hb dX10_readExpression_52 (by decide) ?_
    refine lv_icmp_ne (tgt := 62) hx hb dX10_readExpression_54 (by decide) (fun c2 => ?_) (fun c2 => ?_)
    · rw [if_neg c2] at h
      exact sBX10_readExpression_62 C hr hrx  hd (lv_sub hl [1, 2] rfl) h
    · rw [if_pos c2] at h
      refine lv_aload_n hx hb dX10_readExpression_57 rfl (lv_at hl 1 rfl) ?_
      refine lv_iconst (v := 2) hx hb dX10_readExpression_58 (by decide) ?_
      obtain ⟨S1, hc, h⟩ := bv_some h
      refine R_cVv C hd (ccX10_wrong l G  hc) kX10_237 rfl (by decide) (rfl : kd 142 = 10) hl.1 ⟨by simp only [rmL]; omega, by simp only [rmL]; omega⟩ rfl rfl (Nat.le_of_ble_eq_true rfl) dX10_readExpression_59 ⟨Nat.zero_le _, Nat.zero_le _⟩ (fun H locs hd => ?_)
      generalize S1 = S at h hd
      exact sBX10_readExpression_62 C hr hrx  hd (lv_sub hl [1, 2] rfl) h
  · rw [if_pos c1] at h
    refine lv_aload_n hx hb dX10_readExpression_43 rfl (lv_at hl 1 rfl) ?_
    refine lv_iconst (v := 1) hx hb dX10_readExpression_44 (by decide) ?_
    obtain ⟨S1, hc, h⟩ := bv_some h
    refine R_cVv C hd (ccX10_wrong l G  hc) kX10_237 rfl (by decide) (rfl : kd 142 = 10) hl.1 ⟨by simp only [rmL]; omega, by simp only [rmL]; omega⟩ rfl rfl (Nat.le_of_ble_eq_true rfl) dX10_readExpression_45 ⟨Nat.zero_le _, Nat.zero_le _⟩ (fun H locs hd => ?_)
    generalize S1 = S at h hd
    refine lv_goto (tgt := 62) hx hb dX10_readExpression_48 (by decide) ?_
    exact sBX10_readExpression_62 C hr hrx  hd (lv_sub hl [1, 2] rfl) h
def BX10_readExpression_33 (rx : Int32 → St → Option St) (l1 : Int32) (S : St) : Option St :=
  (BX10_readExpression_38 rx l1 1 S)
set_option maxHeartbeats 4000000 in
set_option maxRecDepth 20000 in
theorem sBX10_readExpression_33 (C : Cx p s m args meth c cX10_readExpression 3 RX10 G) (hr : meth.sig.returnType = none) {rx : Int32 → St → Option St} {dx : Nat} (hrx : ∀ (a1 : Int32) (S res : St), rx a1 S = some res → Met l yX10_readExpression (wm yX10_readExpression cX10_readExpression 3 (none)) (rmL dx 0 0) (PcW G S [.ref (gR G 142), .int a1]) (QV G res) 0 0 (Ab G)) {l1 : Int32} {S : St} {res : St} {H : Heap} {locs : List Loc} {ls : Array Slot}  (hd : Dy G S s H locs) (hl : lv_has ls 3 [(0, .ref (gR G 142)), (1, .int l1)]) (h : BX10_readExpression_33 rx l1 S = some res) : W p l e (rmL (dx + 17) 0 0) s m args below meth c H locs 0 0 (MQ below (QV G res) args s 0 0 (Ab G)) (F0 m 33 ls []) := by
  unfold BX10_readExpression_33 at h
  have hx := C.1.1
  have hb := C.1.2.1
  refine lv_iconst (v := 1) hx hb dX10_readExpression_33 (by decide) ?_
  refine lv_goto (tgt := 38) hx hb dX10_readExpression_34 (by decide) ?_
  exact sBX10_readExpression_38 C hr hrx  hd (lv_sub hl [0, 1] rfl) h
def fX10_readExpression_b (rx : Int32 → St → Option St) (a1 : Int32) (S : St) : Option St :=
  (if (S 142 24) = 0 then (if (S 142 20) = 2 then (BX10_readExpression_33 rx a1 S) else (if (S 142 20) = 1 then (BX10_readExpression_33 rx a1 S) else bd (fX10_isMarked 40 S) fun x4 S => (if x4 = 0 then (BX10_readExpression_38 rx a1 0 S) else (BX10_readExpression_33 rx a1 S)))) else some S)
set_option maxHeartbeats 4000000 in
set_option maxRecDepth 20000 in
theorem sfX10_readExpression_b (C : Cx p s m args meth c cX10_readExpression 3 RX10 G) (hr : meth.sig.returnType = none) {rx : Int32 → St → Option St} {dx : Nat} (hrx : ∀ (a1 : Int32) (S res : St), rx a1 S = some res → Met l yX10_readExpression (wm yX10_readExpression cX10_readExpression 3 (none)) (rmL dx 0 0) (PcW G S [.ref (gR G 142), .int a1]) (QV G res) 0 0 (Ab G)) {a1 : Int32} {S : St} {res : St} {H : Heap} {locs : List Loc} {ls : Array Slot}  (hd : Dy G S s H locs) (hl : lv_has ls 3 [(0, .ref (gR G 142)), (1, .int a1)]) (h : fX10_readExpression_b rx a1 S = some res) : W p l e (rmL (dx + 17) 0 0) s m args below meth c H locs 0 0 (MQ below (QV G res) args s 0 0 (Ab G)) (F0 m 0 ls []) := by
  unfold fX10_readExpression_b at h
  have hx := C.1.1
  have hb := C.1.2.1
  refine lv_aload_n hx hb dX10_readExpression_0 rfl (lv_at hl 0 rfl) ?_
  refine gX10_216 C hd (rfl : kd 142 = 10) dX10_readExpression_1 ?_
  refine lv_if_eq (tgt := 8) hx hb dX10_readExpression_4 (by decide) (fun c1 => ?_) (fun c1 => ?_)
  · rw [if_pos c1] at h
    refine lv_aload_n hx hb dX10_readExpression_8 rfl (lv_at hl 0 rfl) ?_
    refine gX10_190 C hd (rfl : kd 142 = 10) dX10_readExpression_9 ?_
    refine lv_iconst (v := 2) hx hb dX10_readExpression_12 (by decide) ?_
    refine lv_icmp_eq (tgt := 33) hx hb dX10_readExpression_13 (by decide) (fun c2 => ?_) (fun c2 => ?_)
    · rw [if_pos c2] at h
      exact sBX10_readExpression_33 C hr hrx  hd (lv_sub hl [0, 1] rfl) h
    · rw [if_neg c2] at h
      refine lv_aload_n hx hb dX10_readExpression_16 rfl (lv_at hl 0 rfl) ?_
      refine gX10_190 C hd (rfl : kd 142 = 10) dX10_readExpression_17 ?_
      refine lv_iconst (v := 1) hx hb dX10_readExpression_20 (by decide) ?_
      refine lv_icmp_eq (tgt := 33) hx hb dX10_readExpression_21 (by decide) (fun c3 => ?_) (fun c3 => ?_)
      · rw [if_pos c3] at h
        exact sBX10_readExpression_33 C hr hrx  hd (lv_sub hl [0, 1] rfl) h
      · rw [if_neg c3] at h
        refine lv_aload_n hx hb dX10_readExpression_24 rfl (lv_at hl 0 rfl) ?_
        refine lv_bipush (v := 40) hx hb dX10_readExpression_25 (by decide) ?_
        obtain ⟨x4, S1, hc, h⟩ := bd_some h
        refine R_cVi C hd (ccX10_isMarked l G  hc) kX10_234 rfl (by decide) (rfl : kd 142 = 10) hl.1 ⟨by simp only [rmL]; omega, by simp only [rmL]; omega⟩ rfl rfl (Nat.le_of_ble_eq_true rfl) dX10_readExpression_27 ⟨Nat.zero_le _, Nat.zero_le _⟩ (fun H locs hd => ?_)
        generalize S1 = S at h hd
        refine lv_if_eq (tgt := 37) hx hb dX10_readExpression_30 (by decide) (fun c5 => ?_) (fun c5 => ?_)
        · rw [if_pos c5] at h
          refine lv_iconst (v := 0) hx hb dX10_readExpression_37 (by decide) ?_
          exact sBX10_readExpression_38 C hr hrx  hd (lv_sub hl [0, 1] rfl) h
        · rw [if_neg c5] at h
          exact sBX10_readExpression_33 C hr hrx  hd (lv_sub hl [0, 1] rfl) h
  · rw [if_neg c1] at h
    exact R_vret C hr hd h dX10_readExpression_7
set_option maxRecDepth 20000 in
theorem ccX10_readExpression_b (l : Launch) (G : Gt) {rx : Int32 → St → Option St} {dx : Nat} (hrx : ∀ (a1 : Int32) (S res : St), rx a1 S = some res → Met l yX10_readExpression (wm yX10_readExpression cX10_readExpression 3 (none)) (rmL dx 0 0) (PcW G S [.ref (gR G 142), .int a1]) (QV G res) 0 0 (Ab G)) {a1 : Int32} {S : St} {res : St}  (h : fX10_readExpression_b rx a1 S = some res) : Met l yX10_readExpression (wm yX10_readExpression cX10_readExpression 3 (none)) (rmL (dx + 17) 0 0) (PcW G S [.ref (gR G 142), .int a1]) (QV G res) 0 0 (Ab G) := by
  refine Met.ofW (cc := cX10_readExpression) (maxL := 3) (ret := none) (by decide) rfl ?_
  intro p e s m args below meth c s₁ B hml hv
  obtain ⟨rfl, hK, hP⟩ := hv
  have C : Cx p s m _ meth c cX10_readExpression 3 RX10 G := ⟨⟨B.exec, B.bytes, hml, findClass_of_methodNamed B.named, fun w hw => atoms_spec (ws := wm yX10_readExpression cX10_readExpression 3 (none)) B.pre w (List.mem_cons_of_mem _ hw)⟩, B.notSynchronized, hK⟩
  have hl := lv_entry ([.ref (gR G 142), .int a1]) (n := 3) (Nat.le_of_ble_eq_true rfl)
  rw [lg_entry_eq]
  generalize (lg_sl ([.ref (gR G 142), .int a1]) ++ List.replicate (3 - (lg_sl ([.ref (gR G 142), .int a1])).length) Slot.unset).toArray = ls at hl ⊢
  exact sfX10_readExpression_b C B.returns hrx  ⟨hP, va_S.rf⟩ hl h
def fX10_readExpression : Nat → Int32 → St → Option St
  | 0 => fun _ _ => none
  | n + 1 => fun a1 S => fX10_readExpression_b (fX10_readExpression n) a1 S
theorem ccX10_readExpression (l : Launch) (G : Gt) : ∀ (n : Nat) {a1 : Int32} {S res : St}, fX10_readExpression n a1 S = some res → Met l yX10_readExpression (wm yX10_readExpression cX10_readExpression 3 (none)) (rmL (17 * n) 0 0) (PcW G S [.ref (gR G 142), .int a1]) (QV G res) 0 0 (Ab G)
  | 0, _, _, _, h => by cases h
  | n + 1, a1, S, res, h => ccX10_readExpression_b l G (rx := fX10_readExpression n) (dx := 17 * n) (fun a1 S res h => ccX10_readExpression l G n h) h
end T30
