section T20
variable {p : Program} {l : Launch} {e : Env} {s : State} {m : MethodId} {args : Array Value} {below : List Frame} {meth : Method} {c : Code} {G : Gt}
def KJ7_fill_53178_5 (r5 : Nat → Int32 → Int32 → Int32 → St → Option St) (l0 : Nat) (l1 : Int32) (l2 : Int32) (l3 : Int32) (S : St) : Option St :=
  (if l3 ≤ l2 then some S else wr S l0 l2 l1 fun S => vl (l2 + 1) fun x2 => (r5 l0 l1 x2 l3 S))
set_option maxHeartbeats 4000000 in
set_option maxRecDepth 20000 in
theorem sKJ7_fill_53178_5 (C : Cx p s m args meth c cJ7_fill_53178 4 RJ7 G) (hr : meth.sig.returnType = none) {r5 : Nat → Int32 → Int32 → Int32 → St → Option St} (hr5 : ∀ (l0 : Nat) (l1 : Int32) (l2 : Int32) (l3 : Int32) (S : St) (res : St) (H : Heap) (locs : List Loc) (ls : Array Slot), kd l0 = 20 → Dy G S s H locs → lv_has ls 4 [(0, .ref (gR G l0)), (1, .int l1), (2, .int l2), (3, .int l3)] → r5 l0 l1 l2 l3 S = some res → W p l e (rmL 3 0 0) s m args below meth c H locs 0 0 (MQ below (QV G res) args s 0 0 (Ab G)) (F0 m 5 ls [])) {l0 : Nat} {l1 : Int32} {l2 : Int32} {l3 : Int32} {S : St} {res : St} {H : Heap} {locs : List Loc} {ls : Array Slot} (kl0 : kd l0 = 20) (hd : Dy G S s H locs) (hl : lv_has ls 4 [(0, .ref (gR G l0)), (1, .int l1), (2, .int l2), (3, .int l3)]) (h : KJ7_fill_53178_5 r5 l0 l1 l2 l3 S = some res) : W p l e (rmL 3 0 0) s m args below meth c H locs 0 0 (MQ below (QV G res) args s 0 0 (Ab G)) (F0 m 5 ls []) := by
  unfold KJ7_fill_53178_5 at h
  have hx := C.1.1
  have hb := C.1.2.1
  refine lv_iload_n hx hb dJ7_fill_53178_5 rfl (lv_at hl 2 rfl) ?_
  refine lv_iload_n hx hb dJ7_fill_53178_6 rfl (lv_at hl 3 rfl) ?_
  refine lv_icmp_ge (tgt := 20) hx hb dJ7_fill_53178_7 (by decide) (fun c1 => ?_) (fun c1 => ?_)
  · rw [if_pos c1] at h
    exact R_vret C hr hd h dJ7_fill_53178_20
  · rw [if_neg c1] at h
    refine lv_aload_n hx hb dJ7_fill_53178_10 rfl (lv_at hl 0 rfl) ?_
    refine lv_iload_n hx hb dJ7_fill_53178_11 rfl (lv_at hl 2 rfl) ?_
    refine lv_iload_n hx hb dJ7_fill_53178_12 rfl (lv_at hl 1 rfl) ?_
    refine R_iast C hd kl0 h dJ7_fill_53178_13 (fun S H locs hd h => ?_)
    refine R_vi h (fun x2 ex2 h => ?_)
    refine lv_iinc (v := x2) (lv' := [(2, .int x2), (0, .ref (gR G l0)), (1, .int l1), (3, .int l3)]) hx hb dJ7_fill_53178_14 hl (k := 2) rfl (by rw [ex2]; rfl) (by decide) rfl (fun ls hl => ?_)
    refine lv_goto (tgt := 5) hx hb dJ7_fill_53178_17 (by decide) ?_
    exact hr5 l0 l1 x2 l3 _ _ _ _ _ kl0 hd (lv_sub hl [1, 2, 0, 3] rfl) h
def LJ7_fill_53178_5 : Nat → Nat → Int32 → Int32 → Int32 → St → Option St
  | 0 => fun _ _ _ _ _ => none
  | n + 1 => fun l0 l1 l2 l3 S => KJ7_fill_53178_5 (LJ7_fill_53178_5 n) l0 l1 l2 l3 S
theorem sLJ7_fill_53178_5 (C : Cx p s m args meth c cJ7_fill_53178 4 RJ7 G) (hr : meth.sig.returnType = none) : ∀ (n : Nat) (l0 : Nat) (l1 : Int32) (l2 : Int32) (l3 : Int32) (S : St) (res : St) (H : Heap) (locs : List Loc) (ls : Array Slot), kd l0 = 20 → Dy G S s H locs → lv_has ls 4 [(0, .ref (gR G l0)), (1, .int l1), (2, .int l2), (3, .int l3)] → LJ7_fill_53178_5 n l0 l1 l2 l3 S = some res → W p l e (rmL 3 0 0) s m args below meth c H locs 0 0 (MQ below (QV G res) args s 0 0 (Ab G)) (F0 m 5 ls []) := by
  intro n
  induction n with
  | zero => intro l0 l1 l2 l3 S res H locs ls kl0 hd hl h; cases h
  | succ n ih =>
    intro l0 l1 l2 l3 S res H locs ls kl0 hd hl h
    exact sKJ7_fill_53178_5 C hr ih kl0 hd hl h
def fJ7_fill_53178 (a0 : Nat) (a1 : Int32) (S : St) : Option St :=
  vl (nI (ln a0)) fun x1 => (LJ7_fill_53178_5 FU a0 a1 0 x1 S)
set_option maxHeartbeats 4000000 in
set_option maxRecDepth 20000 in
theorem sfJ7_fill_53178 (C : Cx p s m args meth c cJ7_fill_53178 4 RJ7 G) (hr : meth.sig.returnType = none) {a0 : Nat} {a1 : Int32} {S : St} {res : St} {H : Heap} {locs : List Loc} {ls : Array Slot} (k0 : kd a0 = 20) (hd : Dy G S s H locs) (hl : lv_has ls 4 [(0, .ref (gR G a0)), (1, .int a1)]) (h : fJ7_fill_53178 a0 a1 S = some res) : W p l e (rmL 3 0 0) s m args below meth c H locs 0 0 (MQ below (QV G res) args s 0 0 (Ab G)) (F0 m 0 ls []) := by
  unfold fJ7_fill_53178 at h
  have hx := C.1.1
  have hb := C.1.2.1
  refine lv_iconst (v := 0) hx hb dJ7_fill_53178_0 (by decide) ?_
  refine lv_istore_n (lv' := [(2, .int 0), (0, .ref (gR G a0)), (1, .int a1)]) hx hb dJ7_fill_53178_1 rfl hl (by decide) rfl (fun ls hl => ?_)
  refine lv_aload_n hx hb dJ7_fill_53178_2 rfl (lv_at hl 1 rfl) ?_
  refine R_alen C hd k0 (v := nI (ln a0)) rfl dJ7_fill_53178_3 ?_
  refine R_vl h (fun x1 h => ?_)
  refine lv_istore_n (lv' := [(3, .int x1), (2, .int 0), (0, .ref (gR G a0)), (1, .int a1)]) hx hb dJ7_fill_53178_4 rfl hl (by decide) rfl (fun ls hl => ?_)
  exact sLJ7_fill_53178_5 C hr _ a0 a1 0 x1 _ _ _ _ _ k0 hd (lv_sub hl [2, 3, 1, 0] rfl) h
set_option maxRecDepth 20000 in
theorem ccJ7_fill_53178 (l : Launch) (G : Gt) {a0 : Nat} {a1 : Int32} {S : St} {res : St} (k0 : kd a0 = 20) (h : fJ7_fill_53178 a0 a1 S = some res) : Met l yJ7_fill_53178 (wm yJ7_fill_53178 cJ7_fill_53178 4 (none)) (rmL 3 0 0) (PcW G S [.ref (gR G a0), .int a1]) (QV G res) 0 0 (Ab G) := by
  refine Met.ofW (cc := cJ7_fill_53178) (maxL := 4) (ret := none) (by decide) rfl ?_
  intro p e s m args below meth c s₁ B hml hv
  obtain ⟨rfl, hK, hP⟩ := hv
  have C : Cx p s m _ meth c cJ7_fill_53178 4 RJ7 G := ⟨⟨B.exec, B.bytes, hml, findClass_of_methodNamed B.named, fun w hw => atoms_spec (ws := wm yJ7_fill_53178 cJ7_fill_53178 4 (none)) B.pre w (List.mem_cons_of_mem _ hw)⟩, B.notSynchronized, hK⟩
  have hl := lv_entry ([.ref (gR G a0), .int a1]) (n := 4) (Nat.le_of_ble_eq_true rfl)
  rw [lg_entry_eq]
  generalize (lg_sl ([.ref (gR G a0), .int a1]) ++ List.replicate (4 - (lg_sl ([.ref (gR G a0), .int a1])).length) Slot.unset).toArray = ls at hl ⊢
  exact sfJ7_fill_53178 C B.returns k0 ⟨hP, va_S.rf⟩ hl h
def fJ6_bitCount_0f7a4 (a0 : Int32) (S : St) : Option (Int32 × St) :=
  vl (a0 - (((a0.toUInt32 >>> ((1 : Int32).toUInt32 &&& Int32.toUInt32 31)).toInt32) &&& 1431655765)) fun x1 => vl ((x1 &&& 858993459) + (((x1.toUInt32 >>> ((2 : Int32).toUInt32 &&& Int32.toUInt32 31)).toInt32) &&& 858993459)) fun x2 => vl ((x2 + ((x2.toUInt32 >>> ((4 : Int32).toUInt32 &&& Int32.toUInt32 31)).toInt32)) &&& 252645135) fun x3 => vl (x3 + ((x3.toUInt32 >>> ((8 : Int32).toUInt32 &&& Int32.toUInt32 31)).toInt32)) fun x4 => vl (x4 + ((x4.toUInt32 >>> ((16 : Int32).toUInt32 &&& Int32.toUInt32 31)).toInt32)) fun x5 => ri (x5 &&& 63) S
set_option maxHeartbeats 4000000 in
set_option maxRecDepth 20000 in
theorem sfJ6_bitCount_0f7a4 (C : Cx p s m args meth c cJ6_bitCount_0f7a4 1 RJ6 G) (hr : meth.sig.returnType = some .int) {a0 : Int32} {S : St} {res : (Int32 × St)} {H : Heap} {locs : List Loc} {ls : Array Slot}  (hd : Dy G S s H locs) (hl : lv_has ls 1 [(0, .int a0)]) (h : fJ6_bitCount_0f7a4 a0 S = some res) : W p l e (rmL 3 0 0) s m args below meth c H locs 0 0 (MQ below (QI G res.1 res.2) args s 0 0 (Ab G)) (F0 m 0 ls []) := by
  unfold fJ6_bitCount_0f7a4 at h
  have hx := C.1.1
  have hb := C.1.2.1
  refine lv_iload_n hx hb dJ6_bitCount_0f7a4_0 rfl (lv_at hl 0 rfl) ?_
  refine lv_iload_n hx hb dJ6_bitCount_0f7a4_1 rfl (lv_at hl 0 rfl) ?_
  refine lv_iconst (v := 1) hx hb dJ6_bitCount_0f7a4_2 (by decide) ?_
  refine lv_iushr hx hb dJ6_bitCount_0f7a4_3 rfl ?_
  refine lv_ldcw hx hb C.1.2.2.2.1 (C.1.2.2.2.2 _ kcJ6_265) dJ6_bitCount_0f7a4_4 ?_
  refine lv_iand hx hb dJ6_bitCount_0f7a4_7 ?_
  refine lv_isub hx hb dJ6_bitCount_0f7a4_8 ?_
  refine R_vl h (fun x1 h => ?_)
  refine lv_istore_n (lv' := [(0, .int x1)]) hx hb dJ6_bitCount_0f7a4_9 rfl hl (by decide) rfl (fun ls hl => ?_)
  refine lv_iload_n hx hb dJ6_bitCount_0f7a4_10 rfl (lv_at hl 0 rfl) ?_
  refine lv_ldcw hx hb C.1.2.2.2.1 (C.1.2.2.2.2 _ kcJ6_266) dJ6_bitCount_0f7a4_11 ?_
  refine lv_iand hx hb dJ6_bitCount_0f7a4_14 ?_
  refine lv_iload_n hx hb dJ6_bitCount_0f7a4_15 rfl (lv_at hl 0 rfl) ?_
  refine lv_iconst (v := 2) hx hb dJ6_bitCount_0f7a4_16 (by decide) ?_
  refine lv_iushr hx hb dJ6_bitCount_0f7a4_17 rfl ?_
  refine lv_ldcw hx hb C.1.2.2.2.1 (C.1.2.2.2.2 _ kcJ6_266) dJ6_bitCount_0f7a4_18 ?_
  refine lv_iand hx hb dJ6_bitCount_0f7a4_21 ?_
  refine lv_iadd hx hb dJ6_bitCount_0f7a4_22 ?_
  refine R_vl h (fun x2 h => ?_)
  refine lv_istore_n (lv' := [(0, .int x2)]) hx hb dJ6_bitCount_0f7a4_23 rfl hl (by decide) rfl (fun ls hl => ?_)
  refine lv_iload_n hx hb dJ6_bitCount_0f7a4_24 rfl (lv_at hl 0 rfl) ?_
  refine lv_iload_n hx hb dJ6_bitCount_0f7a4_25 rfl (lv_at hl 0 rfl) ?_
  refine lv_iconst (v := 4) hx hb dJ6_bitCount_0f7a4_26 (by decide) ?_
  refine lv_iushr hx hb dJ6_bitCount_0f7a4_27 rfl ?_
  refine lv_iadd hx hb dJ6_bitCount_0f7a4_28 ?_
  refine lv_ldcw hx hb C.1.2.2.2.1 (C.1.2.2.2.2 _ kcJ6_267) dJ6_bitCount_0f7a4_29 ?_
  refine lv_iand hx hb dJ6_bitCount_0f7a4_32 ?_
  refine R_vl h (fun x3 h => ?_)
  refine lv_istore_n (lv' := [(0, .int x3)]) hx hb dJ6_bitCount_0f7a4_33 rfl hl (by decide) rfl (fun ls hl => ?_)
  refine lv_iload_n hx hb dJ6_bitCount_0f7a4_34 rfl (lv_at hl 0 rfl) ?_
  refine lv_iload_n hx hb dJ6_bitCount_0f7a4_35 rfl (lv_at hl 0 rfl) ?_
  refine lv_bipush (v := 8) hx hb dJ6_bitCount_0f7a4_36 (by decide) ?_
  refine lv_iushr hx hb dJ6_bitCount_0f7a4_38 rfl ?_
  refine lv_iadd hx hb dJ6_bitCount_0f7a4_39 ?_
  refine R_vl h (fun x4 h => ?_)
  refine lv_istore_n (lv' := [(0, .int x4)]) hx hb dJ6_bitCount_0f7a4_40 rfl hl (by decide) rfl (fun ls hl => ?_)
  refine lv_iload_n hx hb dJ6_bitCount_0f7a4_41 rfl (lv_at hl 0 rfl) ?_
  refine lv_iload_n hx hb dJ6_bitCount_0f7a4_42 rfl (lv_at hl 0 rfl) ?_
  refine lv_bipush (v := 16) hx hb dJ6_bitCount_0f7a4_43 (by decide) ?_
  refine lv_iushr hx hb dJ6_bitCount_0f7a4_45 rfl ?_
  refine lv_iadd hx hb dJ6_bitCount_0f7a4_46 ?_
  refine R_vl h (fun x5 h => ?_)
  refine lv_istore_n (lv' := [(0, .int x5)]) hx hb dJ6_bitCount_0f7a4_47 rfl hl (by decide) rfl (fun ls hl => ?_)
  refine lv_iload_n hx hb dJ6_bitCount_0f7a4_48 rfl (lv_at hl 0 rfl) ?_
  refine lv_bipush (v := 63) hx hb dJ6_bitCount_0f7a4_49 (by decide) ?_
  refine lv_iand hx hb dJ6_bitCount_0f7a4_51 ?_
  exact R_iret C hr hd h dJ6_bitCount_0f7a4_52
set_option maxRecDepth 20000 in
theorem ccJ6_bitCount_0f7a4 (l : Launch) (G : Gt) {a0 : Int32} {S : St} {res : (Int32 × St)}  (h : fJ6_bitCount_0f7a4 a0 S = some res) : Met l yJ6_bitCount_0f7a4 (wm yJ6_bitCount_0f7a4 cJ6_bitCount_0f7a4 1 (some .int)) (rmL 3 0 0) (PcW G S [.int a0]) (QI G res.1 res.2) 0 0 (Ab G) := by
  refine Met.ofW (cc := cJ6_bitCount_0f7a4) (maxL := 1) (ret := (some .int)) (by decide) rfl ?_
  intro p e s m args below meth c s₁ B hml hv
  obtain ⟨rfl, hK, hP⟩ := hv
  have C : Cx p s m _ meth c cJ6_bitCount_0f7a4 1 RJ6 G := ⟨⟨B.exec, B.bytes, hml, findClass_of_methodNamed B.named, fun w hw => atoms_spec (ws := wm yJ6_bitCount_0f7a4 cJ6_bitCount_0f7a4 1 (some .int)) B.pre w (List.mem_cons_of_mem _ hw)⟩, B.notSynchronized, hK⟩
  have hl := lv_entry ([.int a0]) (n := 1) (Nat.le_of_ble_eq_true rfl)
  rw [lg_entry_eq]
  generalize (lg_sl ([.int a0]) ++ List.replicate (1 - (lg_sl ([.int a0])).length) Slot.unset).toArray = ls at hl ⊢
  exact sfJ6_bitCount_0f7a4 C B.returns  ⟨hP, va_S.rf⟩ hl h
def fJ9_floorMod_7cf53 (a0 : Int32) (a1 : Int32) (S : St) : Option (Int32 × St) :=
  rm' a0 a1 fun x1 => (if 0 ≤ (a0 ^^^ a1) then ri x1 S else (if x1 = 0 then ri x1 S else ri (x1 + a1) S))
set_option maxHeartbeats 4000000 in
set_option maxRecDepth 20000 in
theorem sfJ9_floorMod_7cf53 (C : Cx p s m args meth c cJ9_floorMod_7cf53 3 RJ9 G) (hr : meth.sig.returnType = some .int) {a0 : Int32} {a1 : Int32} {S : St} {res : (Int32 × St)} {H : Heap} {locs : List Loc} {ls : Array Slot}  (hd : Dy G S s H locs) (hl : lv_has ls 3 [(0, .int a0), (1, .int a1)]) (h : fJ9_floorMod_7cf53 a0 a1 S = some res) : W p l e (rmL 3 0 0) s m args below meth c H locs 0 0 (MQ below (QI G res.1 res.2) args s 0 0 (Ab G)) (F0 m 0 ls []) := by
  unfold fJ9_floorMod_7cf53 at h
  have hx := C.1.1
  have hb := C.1.2.1
  refine lv_iload_n hx hb dJ9_floorMod_7cf53_0 rfl (lv_at hl 0 rfl) ?_
  refine lv_iload_n hx hb dJ9_floorMod_7cf53_1 rfl (lv_at hl 1 rfl) ?_
  refine R_rem C h dJ9_floorMod_7cf53_2 (fun x1 h => ?_)
  refine lv_istore_n (lv' := [(2, .int x1), (0, .int a0), (1, .int a1)]) hx hb dJ9_floorMod_7cf53_3 rfl hl (by decide) rfl (fun ls hl => ?_)
  refine lv_iload_n hx hb dJ9_floorMod_7cf53_4 rfl (lv_at hl 1 rfl) ?_
  refine lv_iload_n hx hb dJ9_floorMod_7cf53_5 rfl (lv_at hl 2 rfl) ?_
  refine lv_ixor hx hb dJ9_floorMod_7cf53_6 ?_
  refine lv_if_ge (tgt := 18) hx hb dJ9_floorMod_7cf53_7 (by decide) (fun c2 => ?_) (fun c2 => ?_)
  · rw [if_pos c2] at h
    refine lv_iload_n hx hb dJ9_floorMod_7cf53_18 rfl (lv_at hl 0 rfl) ?_
    exact R_iret C hr hd h dJ9_floorMod_7cf53_19
  · rw [if_neg c2] at h
    refine lv_iload_n hx hb dJ9_floorMod_7cf53_10 rfl (lv_at hl 0 rfl) ?_
    refine lv_if_eq (tgt := 18) hx hb dJ9_floorMod_7cf53_11 (by decide) (fun c3 => ?_) (fun c3 => ?_)
    · rw [if_pos c3] at h
      refine lv_iload_n hx hb dJ9_floorMod_7cf53_18 rfl (lv_at hl 0 rfl) ?_
      exact R_iret C hr hd h dJ9_floorMod_7cf53_19
    · rw [if_neg c3] at h
      refine lv_iload_n hx hb dJ9_floorMod_7cf53_14 rfl (lv_at hl 0 rfl) ?_
      refine lv_iload_n hx hb dJ9_floorMod_7cf53_15 rfl (lv_at hl 2 rfl) ?_
      refine lv_iadd hx hb dJ9_floorMod_7cf53_16 ?_
      exact R_iret C hr hd h dJ9_floorMod_7cf53_17
set_option maxRecDepth 20000 in
theorem ccJ9_floorMod_7cf53 (l : Launch) (G : Gt) {a0 : Int32} {a1 : Int32} {S : St} {res : (Int32 × St)}  (h : fJ9_floorMod_7cf53 a0 a1 S = some res) : Met l yJ9_floorMod_7cf53 (wm yJ9_floorMod_7cf53 cJ9_floorMod_7cf53 3 (some .int)) (rmL 3 0 0) (PcW G S [.int a0, .int a1]) (QI G res.1 res.2) 0 0 (Ab G) := by
  refine ofWF (cc := cJ9_floorMod_7cf53) (maxL := 3) (ret := (some .int)) (by decide +kernel) rfl ?_
  intro p e s m args below meth c s₁ B hml hv
  obtain ⟨rfl, hK, hP⟩ := hv
  have C : Cx p s m _ meth c cJ9_floorMod_7cf53 3 RJ9 G := ⟨⟨B.exec, B.bytes, hml, findClass_of_methodNamed B.named, fun w hw => atoms_spec (ws := wm yJ9_floorMod_7cf53 cJ9_floorMod_7cf53 3 (some .int)) B.pre w (List.mem_cons_of_mem _ hw)⟩, B.notSynchronized, hK⟩
  have hl := lv_entry ([.int a0, .int a1]) (n := 3) (Nat.le_of_ble_eq_true rfl)
  rw [lg_entry_eq]
  generalize (lg_sl ([.int a0, .int a1]) ++ List.replicate (3 - (lg_sl ([.int a0, .int a1])).length) Slot.unset).toArray = ls at hl ⊢
  exact sfJ9_floorMod_7cf53 C B.returns  ⟨hP, va_S.rf⟩ hl h
end T20
