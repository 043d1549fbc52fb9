section T24
variable {p : Program} {l : Launch} {e : Env} {s : State} {m : MethodId} {args : Array Value} {below : List Frame} {meth : Method} {c : Code} {G : Gt}
def KX5_isThirdLower_22 (r22 : Nat → Int32 → Int32 → Int32 → Int32 → St → Option (Int32 × St)) (l0 : Nat) (l1 : Int32) (l2 : Int32) (l3 : Int32) (l4 : Int32) (S : St) : Option (Int32 × St) :=
  (if l3 ≤ l4 then rz 1 S else rd S (sr l0 5) ((l1 * 6) + l4) fun x3 => rd S (sr l0 5) ((l2 * 6) + l4) fun x5 => rm' (x5 + 8) 10 fun x6 => (if x3 = x6 then vl (l4 + 1) fun x8 => (r22 l0 l1 l2 l3 x8 S) else rz 0 S))
set_option maxHeartbeats 4000000 in
set_option maxRecDepth 20000 in
theorem sKX5_isThirdLower_22 (C : Cx p s m args meth c cX5_isThirdLower 5 RX5 G) (hr : meth.sig.returnType = some .boolean) {r22 : Nat → Int32 → Int32 → Int32 → Int32 → St → Option (Int32 × St)} (hr22 : ∀ (l0 : Nat) (l1 : Int32) (l2 : Int32) (l3 : Int32) (l4 : Int32) (S : St) (res : (Int32 × St)) (H : Heap) (locs : List Loc) (ls : Array Slot), kd l0 = 8 → Dy G S s H locs → lv_has ls 5 [(0, .ref (gR G l0)), (1, .int l1), (2, .int l2), (3, .int l3), (4, .int l4)] → r22 l0 l1 l2 l3 l4 S = some res → W p l e (rmL 3 0 0) s m args below meth c H locs 0 0 (MQ below (QI G res.1 res.2) args s 0 0 (Ab G)) (F0 m 22 ls [])) {l0 : Nat} {l1 : Int32} {l2 : Int32} {l3 : Int32} {l4 : Int32} {S : St} {res : (Int32 × St)} {H : Heap} {locs : List Loc} {ls : Array Slot} (kl0 : kd l0 = 8) (hd : Dy G S s H locs) (hl : lv_has ls 5 [(0, .ref (gR G l0)), (1, .int l1), (2, .int l2), (3, .int l3), (4, .int l4)]) (h : KX5_isThirdLower_22 r22 l0 l1 l2 l3 l4 S = some res) : W p l e (rmL 3 0 0) s m args below meth c H locs 0 0 (MQ below (QI G res.1 res.2) args s 0 0 (Ab G)) (F0 m 22 ls []) := by
  unfold KX5_isThirdLower_22 at h
  have hx := C.1.1
  have hb := C.1.2.1
  refine lv_iload hx hb dX5_isThirdLower_22 (lv_at hl 4 rfl) ?_
  refine lv_iload_n hx hb dX5_isThirdLower_24 rfl (lv_at hl 3 rfl) ?_
  refine lv_icmp_ge (tgt := 69) hx hb dX5_isThirdLower_25 (by decide) (fun c1 => ?_) (fun c1 => ?_)
  · rw [if_pos c1] at h
    refine lv_iconst (v := 1) hx hb dX5_isThirdLower_69 (by decide) ?_
    exact R_zret C hr hd h dX5_isThirdLower_70
  · rw [if_neg c1] at h
    refine lv_aload_n hx hb dX5_isThirdLower_28 rfl (lv_at hl 0 rfl) ?_
    refine gX5_28 C hd kl0 (q := sr l0 5) rfl dX5_isThirdLower_29 (fun y2 => ?_)
    refine lv_iload_n hx hb dX5_isThirdLower_32 rfl (lv_at hl 1 rfl) ?_
    refine lv_bipush (v := 6) hx hb dX5_isThirdLower_33 (by decide) ?_
    refine lv_imul hx hb dX5_isThirdLower_35 ?_
    refine lv_iload hx hb dX5_isThirdLower_36 (lv_at hl 4 rfl) ?_
    refine lv_iadd hx hb dX5_isThirdLower_38 ?_
    refine R_iald C hd y2 h dX5_isThirdLower_39 (fun x3 h => ?_)
    refine lv_aload_n hx hb dX5_isThirdLower_40 rfl (lv_at hl 0 rfl) ?_
    refine gX5_28 C hd kl0 (q := sr l0 5) rfl dX5_isThirdLower_41 (fun y4 => ?_)
    refine lv_iload_n hx hb dX5_isThirdLower_44 rfl (lv_at hl 2 rfl) ?_
    refine lv_bipush (v := 6) hx hb dX5_isThirdLower_45 (by decide) ?_
    refine lv_imul hx hb dX5_isThirdLower_47 ?_
    refine lv_iload hx hb dX5_isThirdLower_48 (lv_at hl 4 rfl) ?_
    refine lv_iadd hx hb dX5_isThirdLower_50 ?_
    refine R_iald C hd y4 h dX5_isThirdLower_51 (fun x5 h => ?_)
    refine lv_bipush (v := 8) hx hb dX5_isThirdLower_52 (by decide) ?_
    refine lv_iadd hx hb dX5_isThirdLower_54 ?_
    refine lv_bipush (v := 10) hx hb dX5_isThirdLower_55 (by decide) ?_
    refine R_rem C h dX5_isThirdLower_57 (fun x6 h => ?_)
    refine lv_icmp_eq (tgt := 63) hx hb dX5_isThirdLower_58 (by decide) (fun c7 => ?_) (fun c7 => ?_)
    · rw [if_pos c7] at h
      refine R_vi h (fun x8 ex8 h => ?_)
      refine lv_iinc (v := x8) (lv' := [(4, .int x8), (0, .ref (gR G l0)), (1, .int l1), (2, .int l2), (3, .int l3)]) hx hb dX5_isThirdLower_63 hl (k := 4) rfl (by rw [ex8]; rfl) (by decide) rfl (fun ls hl => ?_)
      refine lv_goto (tgt := 22) hx hb dX5_isThirdLower_66 (by decide) ?_
      exact hr22 l0 l1 l2 l3 x8 _ _ _ _ _ kl0 hd (lv_sub hl [1, 2, 3, 4, 0] rfl) h
    · rw [if_neg c7] at h
      refine lv_iconst (v := 0) hx hb dX5_isThirdLower_61 (by decide) ?_
      exact R_zret C hr hd h dX5_isThirdLower_62
def LX5_isThirdLower_22 : Nat → Nat → Int32 → Int32 → Int32 → Int32 → St → Option (Int32 × St)
  | 0 => fun _ _ _ _ _ _ => none
  | n + 1 => fun l0 l1 l2 l3 l4 S => KX5_isThirdLower_22 (LX5_isThirdLower_22 n) l0 l1 l2 l3 l4 S
theorem sLX5_isThirdLower_22 (C : Cx p s m args meth c cX5_isThirdLower 5 RX5 G) (hr : meth.sig.returnType = some .boolean) : ∀ (n : Nat) (l0 : Nat) (l1 : Int32) (l2 : Int32) (l3 : Int32) (l4 : Int32) (S : St) (res : (Int32 × St)) (H : Heap) (locs : List Loc) (ls : Array Slot), kd l0 = 8 → Dy G S s H locs → lv_has ls 5 [(0, .ref (gR G l0)), (1, .int l1), (2, .int l2), (3, .int l3), (4, .int l4)] → LX5_isThirdLower_22 n l0 l1 l2 l3 l4 S = some res → W p l e (rmL 3 0 0) s m args below meth c H locs 0 0 (MQ below (QI G res.1 res.2) args s 0 0 (Ab G)) (F0 m 22 ls []) := by
  intro n
  induction n with
  | zero => intro l0 l1 l2 l3 l4 S res H locs ls kl0 hd hl h; cases h
  | succ n ih =>
    intro l0 l1 l2 l3 l4 S res H locs ls kl0 hd hl h
    exact sKX5_isThirdLower_22 C hr ih kl0 hd hl h
def fX5_isThirdLower (a0 : Nat) (a1 : Int32) (a2 : Int32) (S : St) : Option (Int32 × St) :=
  rd S (sr a0 4) a2 fun x2 => rd S (sr a0 4) a1 fun x4 => (if x4 = x2 then (LX5_isThirdLower_22 FU a0 a1 a2 x2 0 S) else rz 0 S)
set_option maxHeartbeats 4000000 in
set_option maxRecDepth 20000 in
theorem sfX5_isThirdLower (C : Cx p s m args meth c cX5_isThirdLower 5 RX5 G) (hr : meth.sig.returnType = some .boolean) {a0 : Nat} {a1 : Int32} {a2 : Int32} {S : St} {res : (Int32 × St)} {H : Heap} {locs : List Loc} {ls : Array Slot} (k0 : kd a0 = 8) (hd : Dy G S s H locs) (hl : lv_has ls 5 [(0, .ref (gR G a0)), (1, .int a1), (2, .int a2)]) (h : fX5_isThirdLower a0 a1 a2 S = some res) : W p l e (rmL 3 0 0) s m args below meth c H locs 0 0 (MQ below (QI G res.1 res.2) args s 0 0 (Ab G)) (F0 m 0 ls []) := by
  unfold fX5_isThirdLower at h
  have hx := C.1.1
  have hb := C.1.2.1
  refine lv_aload_n hx hb dX5_isThirdLower_0 rfl (lv_at hl 0 rfl) ?_
  refine gX5_25 C hd k0 (q := sr a0 4) rfl dX5_isThirdLower_1 (fun y1 => ?_)
  refine lv_iload_n hx hb dX5_isThirdLower_4 rfl (lv_at hl 2 rfl) ?_
  refine R_iald C hd y1 h dX5_isThirdLower_5 (fun x2 h => ?_)
  refine lv_istore_n (lv' := [(3, .int x2), (0, .ref (gR G a0)), (1, .int a1), (2, .int a2)]) hx hb dX5_isThirdLower_6 rfl hl (by decide) rfl (fun ls hl => ?_)
  refine lv_aload_n hx hb dX5_isThirdLower_7 rfl (lv_at hl 1 rfl) ?_
  refine gX5_25 C hd k0 (q := sr a0 4) rfl dX5_isThirdLower_8 (fun y3 => ?_)
  refine lv_iload_n hx hb dX5_isThirdLower_11 rfl (lv_at hl 2 rfl) ?_
  refine R_iald C hd y3 h dX5_isThirdLower_12 (fun x4 h => ?_)
  refine lv_iload_n hx hb dX5_isThirdLower_13 rfl (lv_at hl 0 rfl) ?_
  refine lv_icmp_eq (tgt := 19) hx hb dX5_isThirdLower_14 (by decide) (fun c5 => ?_) (fun c5 => ?_)
  · rw [if_pos c5] at h
    refine lv_iconst (v := 0) hx hb dX5_isThirdLower_19 (by decide) ?_
    refine lv_istore (lv' := [(4, .int 0), (3, .int x2), (0, .ref (gR G a0)), (1, .int a1), (2, .int a2)]) hx hb dX5_isThirdLower_20 hl (by decide) rfl (fun ls hl => ?_)
    exact sLX5_isThirdLower_22 C hr _ a0 a1 a2 x2 0 _ _ _ _ _ k0 hd (lv_sub hl [2, 3, 4, 1, 0] rfl) h
  · rw [if_neg c5] at h
    refine lv_iconst (v := 0) hx hb dX5_isThirdLower_17 (by decide) ?_
    exact R_zret C hr hd h dX5_isThirdLower_18
set_option maxRecDepth 20000 in
theorem ccX5_isThirdLower (l : Launch) (G : Gt) {a0 : Nat} {a1 : Int32} {a2 : Int32} {S : St} {res : (Int32 × St)} (k0 : kd a0 = 8) (h : fX5_isThirdLower a0 a1 a2 S = some res) : Met l yX5_isThirdLower (wm yX5_isThirdLower cX5_isThirdLower 5 (some .boolean)) (rmL 3 0 0) (PcW G S [.ref (gR G a0), .int a1, .int a2]) (QI G res.1 res.2) 0 0 (Ab G) := by
  refine Met.ofW (cc := cX5_isThirdLower) (maxL := 5) (ret := (some .boolean)) (by decide) rfl ?_
  intro p e s m args below meth c s₁ B hml hv
  obtain ⟨rfl, hK, hP⟩ := hv
  have C : Cx p s m _ meth c cX5_isThirdLower 5 RX5 G := ⟨⟨B.exec, B.bytes, hml, findClass_of_methodNamed B.named, fun w hw => atoms_spec (ws := wm yX5_isThirdLower cX5_isThirdLower 5 (some .boolean)) B.pre w (List.mem_cons_of_mem _ hw)⟩, B.notSynchronized, hK⟩
  have hl := lv_entry ([.ref (gR G a0), .int a1, .int a2]) (n := 5) (Nat.le_of_ble_eq_true rfl)
  rw [lg_entry_eq]
  generalize (lg_sl ([.ref (gR G a0), .int a1, .int a2]) ++ List.replicate (5 - (lg_sl ([.ref (gR G a0), .int a1, .int a2])).length) Slot.unset).toArray = ls at hl ⊢
  exact sfX5_isThirdLower C B.returns k0 ⟨hP, va_S.rf⟩ hl h
def BX5_thirds_31 (r5 : Nat → Int32 → Int32 → Int32 → St → Option (Int32 × St)) (l1 : Nat) (l2 : Int32) (l3 : Int32) (l4 : Int32) (S : St) : Option (Int32 × St) :=
  vl (l4 + 1) fun x1 => (r5 l1 l2 l3 x1 S)
set_option maxHeartbeats 4000000 in
set_option maxRecDepth 20000 in
theorem sBX5_thirds_31 (C : Cx p s m args meth c cX5_thirds 5 RX5 G) (hr : meth.sig.returnType = some .int) {r5 : Nat → Int32 → Int32 → Int32 → St → Option (Int32 × St)} (hr5 : ∀ (l1 : Nat) (l2 : Int32) (l3 : Int32) (l4 : Int32) (S : St) (res : (Int32 × St)) (H : Heap) (locs : List Loc) (ls : Array Slot), kd l1 = 8 → Dy G S s H locs → lv_has ls 5 [(0, .ref (gR G 140)), (1, .ref (gR G l1)), (2, .int l2), (3, .int l3), (4, .int l4)] → r5 l1 l2 l3 l4 S = some res → W p l e (rmL 4 0 0) s m args below meth c H locs 0 0 (MQ below (QI G res.1 res.2) args s 0 0 (Ab G)) (F0 m 5 ls [])) {l1 : Nat} {l2 : Int32} {l3 : Int32} {l4 : Int32} {S : St} {res : (Int32 × St)} {H : Heap} {locs : List Loc} {ls : Array Slot} (kl1 : kd l1 = 8) (hd : Dy G S s H locs) (hl : lv_has ls 5 [(0, .ref (gR G 140)), (1, .ref (gR G l1)), (2, .int l2), (3, .int l3), (4, .int l4)]) (h : BX5_thirds_31 r5 l1 l2 l3 l4 S = some res) : W p l e (rmL 4 0 0) s m args below meth c H locs 0 0 (MQ below (QI G res.1 res.2) args s 0 0 (Ab G)) (F0 m 31 ls []) := by
  unfold BX5_thirds_31 at h
  have hx := C.1.1
  have hb := C.1.2.1
  refine R_vi h (fun x1 ex1 h => ?_)
  refine lv_iinc (v := x1) (lv' := [(4, .int x1), (0, .ref (gR G 140)), (1, .ref (gR G l1)), (2, .int l2), (3, .int l3)]) hx hb dX5_thirds_31 hl (k := 4) rfl (by rw [ex1]; rfl) (by decide) rfl (fun ls hl => ?_)
  refine lv_goto (tgt := 5) hx hb dX5_thirds_34 (by decide) ?_
  exact hr5 l1 l2 l3 x1 _ _ _ _ _ kl1 hd (lv_sub hl [1, 2, 3, 4, 0] rfl) h
def KX5_thirds_5 (r5 : Nat → Int32 → Int32 → Int32 → St → Option (Int32 × St)) (l1 : Nat) (l2 : Int32) (l3 : Int32) (l4 : Int32) (S : St) : Option (Int32 × St) :=
  (if (S l1 0) ≤ l4 then ri l3 S else bd (fX5_isThirdLower l1 l4 l2 S) fun x2 S => (if x2 = 0 then (BX5_thirds_31 r5 l1 l2 l3 l4 S) else vl (l3 ||| ((1 : Int32) <<< (l4 &&& 31))) fun x4 => (BX5_thirds_31 r5 l1 l2 x4 l4 S)))
set_option maxHeartbeats 4000000 in
set_option maxRecDepth 20000 in
theorem sKX5_thirds_5 (C : Cx p s m args meth c cX5_thirds 5 RX5 G) (hr : meth.sig.returnType = some .int) {r5 : Nat → Int32 → Int32 → Int32 → St → Option (Int32 × St)} (hr5 : ∀ (l1 : Nat) (l2 : Int32) (l3 : Int32) (l4 : Int32) (S : St) (res : (Int32 × St)) (H : Heap) (locs : List Loc) (ls : Array Slot), kd l1 = 8 → Dy G S s H locs → lv_has ls 5 [(0, .ref (gR G 140)), (1, .ref (gR G l1)), (2, .int l2), (3, .int l3), (4, .int l4)] → r5 l1 l2 l3 l4 S = some res → W p l e (rmL 4 0 0) s m args below meth c H locs 0 0 (MQ below (QI G res.1 res.2) args s 0 0 (Ab G)) (F0 m 5 ls [])) {l1 : Nat} {l2 : Int32} {l3 : Int32} {l4 : Int32} {S : St} {res : (Int32 × St)} {H : Heap} {locs : List Loc} {ls : Array Slot} (kl1 : kd l1 = 8) (hd : Dy G S s H locs) (hl : lv_has ls 5 [(0, .ref (gR G 140)), (1, .ref (gR G l1)), (2, .int l2), (3, .int l3), (4, .int l4)]) (h : KX5_thirds_5 r5 l1 l2 l3 l4 S = some res) : W p l e (rmL 4 0 0) s m args below meth c H locs 0 0 (MQ below (QI G res.1 res.2) args s 0 0 (Ab G)) (F0 m 5 ls []) := by
  unfold KX5_thirds_5 at h
  have hx := C.1.1
  have hb := C.1.2.1
  refine lv_iload hx hb dX5_thirds_5 (lv_at hl 4 rfl) ?_
  refine lv_aload_n hx hb dX5_thirds_7 rfl (lv_at hl 1 rfl) ?_
  refine gX5_15 C hd kl1 dX5_thirds_8 ?_
  refine lv_icmp_ge (tgt := 37) hx hb dX5_thirds_11 (by decide) (fun c1 => ?_) (fun c1 => ?_)
  · rw [if_pos c1] at h
    refine lv_iload_n hx hb dX5_thirds_37 rfl (lv_at hl 3 rfl) ?_
    exact R_iret C hr hd h dX5_thirds_38
  · rw [if_neg c1] at h
    refine lv_aload_n hx hb dX5_thirds_14 rfl (lv_at hl 1 rfl) ?_
    refine lv_iload hx hb dX5_thirds_15 (lv_at hl 4 rfl) ?_
    refine lv_iload_n hx hb dX5_thirds_17 rfl (lv_at hl 2 rfl) ?_
    obtain ⟨x2, S1, hc, h⟩ := bd_some h
    refine R_cSi C hd (ccX5_isThirdLower l G kl1 hc) kX5_21  hl.1 ⟨by decide, by decide⟩ rfl rfl (Nat.le_of_ble_eq_true rfl) dX5_thirds_18 ⟨Nat.zero_le _, Nat.zero_le _⟩ (fun H locs hd => ?_)
    generalize S1 = S at h hd
    refine lv_if_eq (tgt := 31) hx hb dX5_thirds_21 (by decide) (fun c3 => ?_) (fun c3 => ?_)
    · rw [if_pos c3] at h
      exact sBX5_thirds_31 C hr hr5 kl1 hd (lv_sub hl [0, 1, 2, 3, 4] rfl) h
    · rw [if_neg c3] at h
      refine lv_iload_n hx hb dX5_thirds_24 rfl (lv_at hl 3 rfl) ?_
      refine lv_iconst (v := 1) hx hb dX5_thirds_25 (by decide) ?_
      refine lv_iload hx hb dX5_thirds_26 (lv_at hl 4 rfl) ?_
      refine lv_ishl hx hb dX5_thirds_28 ?_
      refine lv_ior hx hb dX5_thirds_29 ?_
      refine R_vl h (fun x4 h => ?_)
      refine lv_istore_n (lv' := [(3, .int x4), (0, .ref (gR G 140)), (1, .ref (gR G l1)), (2, .int l2), (4, .int l4)]) hx hb dX5_thirds_30 rfl hl (by decide) rfl (fun ls hl => ?_)
      exact sBX5_thirds_31 C hr hr5 kl1 hd (lv_sub hl [1, 2, 3, 0, 4] rfl) h
def LX5_thirds_5 : Nat → Nat → Int32 → Int32 → Int32 → St → Option (Int32 × St)
  | 0 => fun _ _ _ _ _ => none
  | n + 1 => fun l1 l2 l3 l4 S => KX5_thirds_5 (LX5_thirds_5 n) l1 l2 l3 l4 S
theorem sLX5_thirds_5 (C : Cx p s m args meth c cX5_thirds 5 RX5 G) (hr : meth.sig.returnType = some .int) : ∀ (n : Nat) (l1 : Nat) (l2 : Int32) (l3 : Int32) (l4 : Int32) (S : St) (res : (Int32 × St)) (H : Heap) (locs : List Loc) (ls : Array Slot), kd l1 = 8 → Dy G S s H locs → lv_has ls 5 [(0, .ref (gR G 140)), (1, .ref (gR G l1)), (2, .int l2), (3, .int l3), (4, .int l4)] → LX5_thirds_5 n l1 l2 l3 l4 S = some res → W p l e (rmL 4 0 0) s m args below meth c H locs 0 0 (MQ below (QI G res.1 res.2) args s 0 0 (Ab G)) (F0 m 5 ls []) := by
  intro n
  induction n with
  | zero => intro l1 l2 l3 l4 S res H locs ls kl1 hd hl h; cases h
  | succ n ih =>
    intro l1 l2 l3 l4 S res H locs ls kl1 hd hl h
    exact sKX5_thirds_5 C hr ih kl1 hd hl h
def fX5_thirds (a1 : Nat) (a2 : Int32) (S : St) : Option (Int32 × St) :=
  (LX5_thirds_5 FU a1 a2 0 0 S)
set_option maxHeartbeats 4000000 in
set_option maxRecDepth 20000 in
theorem sfX5_thirds (C : Cx p s m args meth c cX5_thirds 5 RX5 G) (hr : meth.sig.returnType = some .int) {a1 : Nat} {a2 : Int32} {S : St} {res : (Int32 × St)} {H : Heap} {locs : List Loc} {ls : Array Slot} (k1 : kd a1 = 8) (hd : Dy G S s H locs) (hl : lv_has ls 5 [(0, .ref (gR G 140)), (1, .ref (gR G a1)), (2, .int a2)]) (h : fX5_thirds a1 a2 S = some res) : W p l e (rmL 4 0 0) s m args below meth c H locs 0 0 (MQ below (QI G res.1 res.2) args s 0 0 (Ab G)) (F0 m 0 ls []) := by
  unfold fX5_thirds at h
  have hx := C.1.1
  have hb := C.1.2.1
  refine lv_iconst (v := 0) hx hb dX5_thirds_0 (by decide) ?_
  refine lv_istore_n (lv' := [(3, .int 0), (0, .ref (gR G 140)), (1, .ref (gR G a1)), (2, .int a2)]) hx hb dX5_thirds_1 rfl hl (by decide) rfl (fun ls hl => ?_)
  refine lv_iconst (v := 0) hx hb dX5_thirds_2 (by decide) ?_
  refine lv_istore (lv' := [(4, .int 0), (3, .int 0), (0, .ref (gR G 140)), (1, .ref (gR G a1)), (2, .int a2)]) hx hb dX5_thirds_3 hl (by decide) rfl (fun ls hl => ?_)
  exact sLX5_thirds_5 C hr _ a1 a2 0 0 _ _ _ _ _ k1 hd (lv_sub hl [2, 3, 4, 1, 0] rfl) h
set_option maxRecDepth 20000 in
theorem ccX5_thirds (l : Launch) (G : Gt) {a1 : Nat} {a2 : Int32} {S : St} {res : (Int32 × St)} (k1 : kd a1 = 8) (h : fX5_thirds a1 a2 S = some res) : Met l yX5_thirds (wm yX5_thirds cX5_thirds 5 (some .int)) (rmL 4 0 0) (PcW G S [.ref (gR G 140), .ref (gR G a1), .int a2]) (QI G res.1 res.2) 0 0 (Ab G) := by
  refine Met.ofW (cc := cX5_thirds) (maxL := 5) (ret := (some .int)) (by decide) rfl ?_
  intro p e s m args below meth c s₁ B hml hv
  obtain ⟨rfl, hK, hP⟩ := hv
  have C : Cx p s m _ meth c cX5_thirds 5 RX5 G := ⟨⟨B.exec, B.bytes, hml, findClass_of_methodNamed B.named, fun w hw => atoms_spec (ws := wm yX5_thirds cX5_thirds 5 (some .int)) B.pre w (List.mem_cons_of_mem _ hw)⟩, B.notSynchronized, hK⟩
  have hl := lv_entry ([.ref (gR G 140), .ref (gR G a1), .int a2]) (n := 5) (Nat.le_of_ble_eq_true rfl)
  rw [lg_entry_eq]
  generalize (lg_sl ([.ref (gR G 140), .ref (gR G a1), .int a2]) ++ List.replicate (5 - (lg_sl ([.ref (gR G 140), .ref (gR G a1), .int a2])).length) Slot.unset).toArray = ls at hl ⊢
  exact sfX5_thirds C B.returns k1 ⟨hP, va_S.rf⟩ hl h
def BX5_inCommon_140 (r43 : Nat → Int32 → Int32 → Int32 → Int32 → Int32 → St → Option (Int32 × St)) (r56 : Nat → Int32 → Int32 → Int32 → Int32 → Int32 → Int32 → Int32 → St → Option (Int32 × St)) (l1 : Nat) (l2 : Int32) (l3 : Int32) (l4 : Int32) (l5 : Int32) (l6 : Int32) (l8 : Int32) (l9 : Int32) (s1 : Int32) (s2 : Int32) (S : St) : Option (Int32 × St) :=
  wr S 141 s1 s2 fun S => vl (l8 + 1) fun x1 => (r56 l1 l2 l3 l4 l5 l6 l9 x1 S)
set_option maxHeartbeats 4000000 in
set_option maxRecDepth 20000 in
theorem sBX5_inCommon_140 (C : Cx p s m args meth c cX5_inCommon 11 RX5 G) (hr : meth.sig.returnType = some .int) {r43 : Nat → Int32 → Int32 → Int32 → Int32 → Int32 → St → Option (Int32 × St)} {r56 : Nat → Int32 → Int32 → Int32 → Int32 → Int32 → Int32 → Int32 → St → Option (Int32 × St)} (hr43 : ∀ (l1 : Nat) (l2 : Int32) (l3 : Int32) (l4 : Int32) (l5 : Int32) (l6 : Int32) (S : St) (res : (Int32 × St)) (H : Heap) (locs : List Loc) (ls : Array Slot), kd l1 = 8 → Dy G S s H locs → lv_has ls 11 [(0, .ref (gR G 140)), (1, .ref (gR G l1)), (2, .int l2), (3, .int l3), (4, .int l4), (5, .int l5), (6, .int l6)] → r43 l1 l2 l3 l4 l5 l6 S = some res → W p l e (rmL 3 0 0) s m args below meth c H locs 0 0 (MQ below (QI G res.1 res.2) args s 0 0 (Ab G)) (F0 m 43 ls [])) (hr56 : ∀ (l1 : Nat) (l2 : Int32) (l3 : Int32) (l4 : Int32) (l5 : Int32) (l6 : Int32) (l7 : Int32) (l8 : Int32) (S : St) (res : (Int32 × St)) (H : Heap) (locs : List Loc) (ls : Array Slot), kd l1 = 8 → Dy G S s H locs → lv_has ls 11 [(0, .ref (gR G 140)), (1, .ref (gR G l1)), (2, .int l2), (3, .int l3), (4, .int l4), (5, .int l5), (6, .int l6), (7, .int l7), (8, .int l8)] → r56 l1 l2 l3 l4 l5 l6 l7 l8 S = some res → W p l e (rmL 3 0 0) s m args below meth c H locs 0 0 (MQ below (QI G res.1 res.2) args s 0 0 (Ab G)) (F0 m 56 ls [])) {l1 : Nat} {l2 : Int32} {l3 : Int32} {l4 : Int32} {l5 : Int32} {l6 : Int32} {l8 : Int32} {l9 : Int32} {s1 : Int32} {s2 : Int32} {S : St} {res : (Int32 × St)} {H : Heap} {locs : List Loc} {ls : Array Slot} (kl1 : kd l1 = 8) (hd : Dy G S s H locs) (hl : lv_has ls 11 [(0, .ref (gR G 140)), (1, .ref (gR G l1)), (2, .int l2), (3, .int l3), (4, .int l4), (5, .int l5), (6, .int l6), (8, .int l8), (9, .int l9)]) (h : BX5_inCommon_140 r43 r56 l1 l2 l3 l4 l5 l6 l8 l9 s1 s2 S = some res) : W p l e (rmL 3 0 0) s m args below meth c H locs 0 0 (MQ below (QI G res.1 res.2) args s 0 0 (Ab G)) (F0 m 140 ls [.int s2, .int s1, .ref (gR G 141)]) := by
  unfold BX5_inCommon_140 at h
  have hx := C.1.1
  have hb := C.1.2.1
  refine R_iast C hd (rfl : kd 141 = 20) h dX5_inCommon_140 (fun S H locs hd h => ?_)
  refine lv_iload hx hb dX5_inCommon_141 (lv_at hl 8 rfl) ?_
  refine lv_istore (lv' := [(7, .int l9), (0, .ref (gR G 140)), (1, .ref (gR G l1)), (2, .int l2), (3, .int l3), (4, .int l4), (5, .int l5), (6, .int l6), (8, .int l8), (9, .int l9)]) hx hb dX5_inCommon_143 hl (by decide) rfl (fun ls hl => ?_)
  refine R_vi h (fun x1 ex1 h => ?_)
  refine lv_iinc (v := x1) (lv' := [(8, .int x1), (7, .int l9), (0, .ref (gR G 140)), (1, .ref (gR G l1)), (2, .int l2), (3, .int l3), (4, .int l4), (5, .int l5), (6, .int l6), (9, .int l9)]) hx hb dX5_inCommon_145 hl (k := 8) rfl (by rw [ex1]; rfl) (by decide) rfl (fun ls hl => ?_)
  refine lv_goto (tgt := 56) hx hb dX5_inCommon_148 (by decide) ?_
  exact hr56 l1 l2 l3 l4 l5 l6 l9 x1 _ _ _ _ _ kl1 hd (lv_sub hl [2, 3, 4, 5, 6, 7, 8, 1, 0] rfl) h
def BX5_inCommon_106 (r43 : Nat → Int32 → Int32 → Int32 → Int32 → Int32 → St → Option (Int32 × St)) (r56 : Nat → Int32 → Int32 → Int32 → Int32 → Int32 → Int32 → Int32 → St → Option (Int32 × St)) (l1 : Nat) (l2 : Int32) (l3 : Int32) (l4 : Int32) (l5 : Int32) (l6 : Int32) (l7 : Int32) (l8 : Int32) (l9 : Int32) (s0 : Int32) (S : St) : Option (Int32 × St) :=
  (if s0 = 0 then rd S 141 l8 fun x4 => vl (if l9 < x4 then x4 else l9) fun x5 => (BX5_inCommon_140 r43 r56 l1 l2 l3 l4 l5 l6 l8 l9 (l8 + 1) x5 S) else (BX5_inCommon_140 r43 r56 l1 l2 l3 l4 l5 l6 l8 l9 (l8 + 1) (l7 + 1) S))
set_option maxHeartbeats 4000000 in
set_option maxRecDepth 20000 in
theorem sBX5_inCommon_106 (C : Cx p s m args meth c cX5_inCommon 11 RX5 G) (hr : meth.sig.returnType = some .int) {r43 : Nat → Int32 → Int32 → Int32 → Int32 → Int32 → St → Option (Int32 × St)} {r56 : Nat → Int32 → Int32 → Int32 → Int32 → Int32 → Int32 → Int32 → St → Option (Int32 × St)} (hr43 : ∀ (l1 : Nat) (l2 : Int32) (l3 : Int32) (l4 : Int32) (l5 : Int32) (l6 : Int32) (S : St) (res : (Int32 × St)) (H : Heap) (locs : List Loc) (ls : Array Slot), kd l1 = 8 → Dy G S s H locs → lv_has ls 11 [(0, .ref (gR G 140)), (1, .ref (gR G l1)), (2, .int l2), (3, .int l3), (4, .int l4), (5, .int l5), (6, .int l6)] → r43 l1 l2 l3 l4 l5 l6 S = some res → W p l e (rmL 3 0 0) s m args below meth c H locs 0 0 (MQ below (QI G res.1 res.2) args s 0 0 (Ab G)) (F0 m 43 ls [])) (hr56 : ∀ (l1 : Nat) (l2 : Int32) (l3 : Int32) (l4 : Int32) (l5 : Int32) (l6 : Int32) (l7 : Int32) (l8 : Int32) (S : St) (res : (Int32 × St)) (H : Heap) (locs : List Loc) (ls : Array Slot), kd l1 = 8 → Dy G S s H locs → lv_has ls 11 [(0, .ref (gR G 140)), (1, .ref (gR G l1)), (2, .int l2), (3, .int l3), (4, .int l4), (5, .int l5), (6, .int l6), (7, .int l7), (8, .int l8)] → r56 l1 l2 l3 l4 l5 l6 l7 l8 S = some res → W p l e (rmL 3 0 0) s m args below meth c H locs 0 0 (MQ below (QI G res.1 res.2) args s 0 0 (Ab G)) (F0 m 56 ls [])) {l1 : Nat} {l2 : Int32} {l3 : Int32} {l4 : Int32} {l5 : Int32} {l6 : Int32} {l7 : Int32} {l8 : Int32} {l9 : Int32} {s0 : Int32} {S : St} {res : (Int32 × St)} {H : Heap} {locs : List Loc} {ls : Array Slot} (kl1 : kd l1 = 8) (hd : Dy G S s H locs) (hl : lv_has ls 11 [(0, .ref (gR G 140)), (1, .ref (gR G l1)), (2, .int l2), (3, .int l3), (4, .int l4), (5, .int l5), (6, .int l6), (7, .int l7), (8, .int l8), (9, .int l9)]) (h : BX5_inCommon_106 r43 r56 l1 l2 l3 l4 l5 l6 l7 l8 l9 s0 S = some res) : W p l e (rmL 3 0 0) s m args below meth c H locs 0 0 (MQ below (QI G res.1 res.2) args s 0 0 (Ab G)) (F0 m 106 ls [.int s0]) := by
  unfold BX5_inCommon_106 at h
  have hx := C.1.1
  have hb := C.1.2.1
  refine lv_istore (lv' := [(10, .int s0), (0, .ref (gR G 140)), (1, .ref (gR G l1)), (2, .int l2), (3, .int l3), (4, .int l4), (5, .int l5), (6, .int l6), (7, .int l7), (8, .int l8), (9, .int l9)]) hx hb dX5_inCommon_106 hl (by decide) rfl (fun ls hl => ?_)
  refine lv_aload_n hx hb dX5_inCommon_108 rfl (lv_at hl 1 rfl) ?_
  refine gX5_9 C hd (rfl : kd 140 = 5) (q := 141) rfl dX5_inCommon_109 (fun y1 => ?_)
  refine lv_iload hx hb dX5_inCommon_112 (lv_at hl 9 rfl) ?_
  refine lv_iconst (v := 1) hx hb dX5_inCommon_114 (by decide) ?_
  refine lv_iadd hx hb dX5_inCommon_115 ?_
  refine lv_iload hx hb dX5_inCommon_116 (lv_at hl 0 rfl) ?_
  refine lv_if_eq (tgt := 128) hx hb dX5_inCommon_118 (by decide) (fun c2 => ?_) (fun c2 => ?_)
  · rw [if_pos c2] at h
    refine lv_iload hx hb dX5_inCommon_128 (lv_at hl 10 rfl) ?_
    refine lv_aload_n hx hb dX5_inCommon_130 rfl (lv_at hl 1 rfl) ?_
    refine gX5_9 C hd (rfl : kd 140 = 5) (q := 141) rfl dX5_inCommon_131 (fun y3 => ?_)
    refine lv_iload hx hb dX5_inCommon_134 (lv_at hl 9 rfl) ?_
    refine R_iald C hd y3 h dX5_inCommon_136 (fun x4 h => ?_)
    refine R_mmax C hl.1 kmX5_31 (Nat.le_of_ble_eq_true rfl) (Nat.le_of_ble_eq_true rfl) (Nat.le_of_ble_eq_true rfl) (Nat.le_of_ble_eq_true rfl) dX5_inCommon_137 ?_
    refine R_vl h (fun x5 h => ?_)
    exact sBX5_inCommon_140 C hr hr43 hr56 kl1 hd (lv_sub hl [1, 2, 3, 4, 5, 6, 7, 9, 10] rfl) h
  · rw [if_neg c2] at h
    refine lv_iload hx hb dX5_inCommon_121 (lv_at hl 8 rfl) ?_
    refine lv_iconst (v := 1) hx hb dX5_inCommon_123 (by decide) ?_
    refine lv_iadd hx hb dX5_inCommon_124 ?_
    refine lv_goto (tgt := 140) hx hb dX5_inCommon_125 (by decide) ?_
    exact sBX5_inCommon_140 C hr hr43 hr56 kl1 hd (lv_sub hl [1, 2, 3, 4, 5, 6, 7, 9, 10] rfl) h
def KX5_inCommon_56 (r43 : Nat → Int32 → Int32 → Int32 → Int32 → Int32 → St → Option (Int32 × St)) (r56 : Nat → Int32 → Int32 → Int32 → Int32 → Int32 → Int32 → Int32 → St → Option (Int32 × St)) (l1 : Nat) (l2 : Int32) (l3 : Int32) (l4 : Int32) (l5 : Int32) (l6 : Int32) (l7 : Int32) (l8 : Int32) (S : St) : Option (Int32 × St) :=
  (if l5 ≤ l8 then vl (l6 + 1) fun x2 => (r43 l1 l2 l3 l4 l5 x2 S) else rd S 141 (l8 + 1) fun x4 => rd S (sr l1 5) ((l2 * 6) + l6) fun x6 => rd S (sr l1 5) ((l3 * 6) + l8) fun x8 => (if x6 = x8 then (BX5_inCommon_106 r43 r56 l1 l2 l3 l4 l5 l6 l7 l8 x4 1 S) else (BX5_inCommon_106 r43 r56 l1 l2 l3 l4 l5 l6 l7 l8 x4 0 S)))
set_option maxHeartbeats 4000000 in
set_option maxRecDepth 20000 in
theorem sKX5_inCommon_56 (C : Cx p s m args meth c cX5_inCommon 11 RX5 G) (hr : meth.sig.returnType = some .int) {r43 : Nat → Int32 → Int32 → Int32 → Int32 → Int32 → St → Option (Int32 × St)} {r56 : Nat → Int32 → Int32 → Int32 → Int32 → Int32 → Int32 → Int32 → St → Option (Int32 × St)} (hr43 : ∀ (l1 : Nat) (l2 : Int32) (l3 : Int32) (l4 : Int32) (l5 : Int32) (l6 : Int32) (S : St) (res : (Int32 × St)) (H : Heap) (locs : List Loc) (ls : Array Slot), kd l1 = 8 → Dy G S s H locs → lv_has ls 11 [(0, .ref (gR G 140)), (1, .ref (gR G l1)), (2, .int l2), (3, .int l3), (4, .int l4), (5, .int l5), (6, .int l6)] → r43 l1 l2 l3 l4 l5 l6 S = some res → W p l e (rmL 3 0 0) s m args below meth c H locs 0 0 (MQ below (QI G res.1 res.2) args s 0 0 (Ab G)) (F0 m 43 ls [])) (hr56 : ∀ (l1 : Nat) (l2 : Int32) (l3 : Int32) (l4 : Int32) (l5 : Int32) (l6 : Int32) (l7 : Int32) (l8 : Int32) (S : St) (res : (Int32 × St)) (H : Heap) (locs : List Loc) (ls : Array Slot), kd l1 = 8 → Dy G S s H locs → lv_has ls 11 [(0, .ref (gR G 140)), (1, .ref (gR G l1)), (2, .int l2), (3, .int l3), (4, .int l4), (5, .int l5), (6, .int l6), (7, .int l7), (8, .int l8)] → r56 l1 l2 l3 l4 l5 l6 l7 l8 S = some res → W p l e (rmL 3 0 0) s m args below meth c H locs 0 0 (MQ below (QI G res.1 res.2) args s 0 0 (Ab G)) (F0 m 56 ls [])) {l1 : Nat} {l2 : Int32} {l3 : Int32} {l4 : Int32} {l5 : Int32} {l6 : Int32} {l7 : Int32} {l8 : Int32} {S : St} {res : (Int32 × St)} {H : Heap} {locs : List Loc} {ls : Array Slot} (kl1 : kd l1 = 8) (hd : Dy G S s H locs) (hl : lv_has ls 11 [(0, .ref (gR G 140)), (1, .ref (gR G l1)), (2, .int l2), (3, .int l3), (4, .int l4), (5, .int l5), (6, .int l6), (7, .int l7), (8, .int l8)]) (h : KX5_inCommon_56 r43 r56 l1 l2 l3 l4 l5 l6 l7 l8 S = some res) : W p l e (rmL 3 0 0) s m args below meth c H locs 0 0 (MQ below (QI G res.1 res.2) args s 0 0 (Ab G)) (F0 m 56 ls []) := by
  unfold KX5_inCommon_56 at h
  have hx := C.1.1
  have hb := C.1.2.1
  refine lv_iload hx hb dX5_inCommon_56 (lv_at hl 8 rfl) ?_
  refine lv_iload hx hb dX5_inCommon_58 (lv_at hl 5 rfl) ?_
  refine lv_icmp_ge (tgt := 151) hx hb dX5_inCommon_60 (by decide) (fun c1 => ?_) (fun c1 => ?_)
  · rw [if_pos c1] at h
    refine R_vi h (fun x2 ex2 h => ?_)
    refine lv_iinc (v := x2) (lv' := [(6, .int x2), (0, .ref (gR G 140)), (1, .ref (gR G l1)), (2, .int l2), (3, .int l3), (4, .int l4), (5, .int l5), (7, .int l7), (8, .int l8)]) hx hb dX5_inCommon_151 hl (k := 6) rfl (by rw [ex2]; rfl) (by decide) rfl (fun ls hl => ?_)
    refine lv_goto (tgt := 43) hx hb dX5_inCommon_154 (by decide) ?_
    exact hr43 l1 l2 l3 l4 l5 x2 _ _ _ _ _ kl1 hd (lv_sub hl [1, 2, 3, 4, 5, 6, 0] rfl) h
  · rw [if_neg c1] at h
    refine lv_aload_n hx hb dX5_inCommon_63 rfl (lv_at hl 0 rfl) ?_
    refine gX5_9 C hd (rfl : kd 140 = 5) (q := 141) rfl dX5_inCommon_64 (fun y3 => ?_)
    refine lv_iload hx hb dX5_inCommon_67 (lv_at hl 8 rfl) ?_
    refine lv_iconst (v := 1) hx hb dX5_inCommon_69 (by decide) ?_
    refine lv_iadd hx hb dX5_inCommon_70 ?_
    refine R_iald C hd y3 h dX5_inCommon_71 (fun x4 h => ?_)
    refine lv_istore (lv' := [(9, .int x4), (0, .ref (gR G 140)), (1, .ref (gR G l1)), (2, .int l2), (3, .int l3), (4, .int l4), (5, .int l5), (6, .int l6), (7, .int l7), (8, .int l8)]) hx hb dX5_inCommon_72 hl (by decide) rfl (fun ls hl => ?_)
    refine lv_aload_n hx hb dX5_inCommon_74 rfl (lv_at hl 2 rfl) ?_
    refine gX5_28 C hd kl1 (q := sr l1 5) rfl dX5_inCommon_75 (fun y5 => ?_)
    refine lv_iload_n hx hb dX5_inCommon_78 rfl (lv_at hl 3 rfl) ?_
    refine lv_bipush (v := 6) hx hb dX5_inCommon_79 (by decide) ?_
    refine lv_imul hx hb dX5_inCommon_81 ?_
    refine lv_iload hx hb dX5_inCommon_82 (lv_at hl 7 rfl) ?_
    refine lv_iadd hx hb dX5_inCommon_84 ?_
    refine R_iald C hd y5 h dX5_inCommon_85 (fun x6 h => ?_)
    refine lv_aload_n hx hb dX5_inCommon_86 rfl (lv_at hl 2 rfl) ?_
    refine gX5_28 C hd kl1 (q := sr l1 5) rfl dX5_inCommon_87 (fun y7 => ?_)
    refine lv_iload_n hx hb dX5_inCommon_90 rfl (lv_at hl 4 rfl) ?_
    refine lv_bipush (v := 6) hx hb dX5_inCommon_91 (by decide) ?_
    refine lv_imul hx hb dX5_inCommon_93 ?_
    refine lv_iload hx hb dX5_inCommon_94 (lv_at hl 9 rfl) ?_
    refine lv_iadd hx hb dX5_inCommon_96 ?_
    refine R_iald C hd y7 h dX5_inCommon_97 (fun x8 h => ?_)
    refine lv_icmp_ne (tgt := 105) hx hb dX5_inCommon_98 (by decide) (fun c9 => ?_) (fun c9 => ?_)
    · rw [if_neg c9] at h
      refine lv_iconst (v := 0) hx hb dX5_inCommon_105 (by decide) ?_
      exact sBX5_inCommon_106 C hr hr43 hr56 kl1 hd (lv_sub hl [1, 2, 3, 4, 5, 6, 7, 8, 9, 0] rfl) h
    · rw [if_pos c9] at h
      refine lv_iconst (v := 1) hx hb dX5_inCommon_101 (by decide) ?_
      refine lv_goto (tgt := 106) hx hb dX5_inCommon_102 (by decide) ?_
      exact sBX5_inCommon_106 C hr hr43 hr56 kl1 hd (lv_sub hl [1, 2, 3, 4, 5, 6, 7, 8, 9, 0] rfl) h
def LX5_inCommon_56 (r43 : Nat → Int32 → Int32 → Int32 → Int32 → Int32 → St → Option (Int32 × St)) : Nat → Nat → Int32 → Int32 → Int32 → Int32 → Int32 → Int32 → Int32 → St → Option (Int32 × St)
  | 0 => fun _ _ _ _ _ _ _ _ _ => none
  | n + 1 => fun l1 l2 l3 l4 l5 l6 l7 l8 S => KX5_inCommon_56 r43 (LX5_inCommon_56 r43 n) l1 l2 l3 l4 l5 l6 l7 l8 S
theorem sLX5_inCommon_56 (C : Cx p s m args meth c cX5_inCommon 11 RX5 G) (hr : meth.sig.returnType = some .int) {r43 : Nat → Int32 → Int32 → Int32 → Int32 → Int32 → St → Option (Int32 × St)} (hr43 : ∀ (l1 : Nat) (l2 : Int32) (l3 : Int32) (l4 : Int32) (l5 : Int32) (l6 : Int32) (S : St) (res : (Int32 × St)) (H : Heap) (locs : List Loc) (ls : Array Slot), kd l1 = 8 → Dy G S s H locs → lv_has ls 11 [(0, .ref (gR G 140)), (1, .ref (gR G l1)), (2, .int l2), (3, .int l3), (4, .int l4), (5, .int l5), (6, .int l6)] → r43 l1 l2 l3 l4 l5 l6 S = some res → W p l e (rmL 3 0 0) s m args below meth c H locs 0 0 (MQ below (QI G res.1 res.2) args s 0 0 (Ab G)) (F0 m 43 ls [])) : ∀ (n : Nat) (l1 : Nat) (l2 : Int32) (l3 : Int32) (l4 : Int32) (l5 : Int32) (l6 : Int32) (l7 : Int32) (l8 : Int32) (S : St) (res : (Int32 × St)) (H : Heap) (locs : List Loc) (ls : Array Slot), kd l1 = 8 → Dy G S s H locs → lv_has ls 11 [(0, .ref (gR G 140)), (1, .ref (gR G l1)), (2, .int l2), (3, .int l3), (4, .int l4), (5, .int l5), (6, .int l6), (7, .int l7), (8, .int l8)] → LX5_inCommon_56 r43 n l1 l2 l3 l4 l5 l6 l7 l8 S = some res → W p l e (rmL 3 0 0) s m args below meth c H locs 0 0 (MQ below (QI G res.1 res.2) args s 0 0 (Ab G)) (F0 m 56 ls []) := by
  intro n
  induction n with
  | zero => intro l1 l2 l3 l4 l5 l6 l7 l8 S res H locs ls kl1 hd hl h; cases h
  | succ n ih =>
    intro l1 l2 l3 l4 l5 l6 l7 l8 S res H locs ls kl1 hd hl h
    exact sKX5_inCommon_56 C hr hr43 ih kl1 hd hl h
def KX5_inCommon_43 (r43 : Nat → Int32 → Int32 → Int32 → Int32 → Int32 → St → Option (Int32 × St)) (l1 : Nat) (l2 : Int32) (l3 : Int32) (l4 : Int32) (l5 : Int32) (l6 : Int32) (S : St) : Option (Int32 × St) :=
  (if l4 ≤ l6 then rd S 141 l5 fun x3 => ri x3 S else (LX5_inCommon_56 r43 FU l1 l2 l3 l4 l5 l6 0 0 S))
set_option maxHeartbeats 4000000 in
set_option maxRecDepth 20000 in
theorem sKX5_inCommon_43 (C : Cx p s m args meth c cX5_inCommon 11 RX5 G) (hr : meth.sig.returnType = some .int) {r43 : Nat → Int32 → Int32 → Int32 → Int32 → Int32 → St → Option (Int32 × St)} (hr43 : ∀ (l1 : Nat) (l2 : Int32) (l3 : Int32) (l4 : Int32) (l5 : Int32) (l6 : Int32) (S : St) (res : (Int32 × St)) (H : Heap) (locs : List Loc) (ls : Array Slot), kd l1 = 8 → Dy G S s H locs → lv_has ls 11 [(0, .ref (gR G 140)), (1, .ref (gR G l1)), (2, .int l2), (3, .int l3), (4, .int l4), (5, .int l5), (6, .int l6)] → r43 l1 l2 l3 l4 l5 l6 S = some res → W p l e (rmL 3 0 0) s m args below meth c H locs 0 0 (MQ below (QI G res.1 res.2) args s 0 0 (Ab G)) (F0 m 43 ls [])) {l1 : Nat} {l2 : Int32} {l3 : Int32} {l4 : Int32} {l5 : Int32} {l6 : Int32} {S : St} {res : (Int32 × St)} {H : Heap} {locs : List Loc} {ls : Array Slot} (kl1 : kd l1 = 8) (hd : Dy G S s H locs) (hl : lv_has ls 11 [(0, .ref (gR G 140)), (1, .ref (gR G l1)), (2, .int l2), (3, .int l3), (4, .int l4), (5, .int l5), (6, .int l6)]) (h : KX5_inCommon_43 r43 l1 l2 l3 l4 l5 l6 S = some res) : W p l e (rmL 3 0 0) s m args below meth c H locs 0 0 (MQ below (QI G res.1 res.2) args s 0 0 (Ab G)) (F0 m 43 ls []) := by
  unfold KX5_inCommon_43 at h
  have hx := C.1.1
  have hb := C.1.2.1
  refine lv_iload hx hb dX5_inCommon_43 (lv_at hl 6 rfl) ?_
  refine lv_iload hx hb dX5_inCommon_45 (lv_at hl 4 rfl) ?_
  refine lv_icmp_ge (tgt := 157) hx hb dX5_inCommon_47 (by decide) (fun c1 => ?_) (fun c1 => ?_)
  · rw [if_pos c1] at h
    refine lv_aload_n hx hb dX5_inCommon_157 rfl (lv_at hl 0 rfl) ?_
    refine gX5_9 C hd (rfl : kd 140 = 5) (q := 141) rfl dX5_inCommon_158 (fun y2 => ?_)
    refine lv_iload hx hb dX5_inCommon_161 (lv_at hl 5 rfl) ?_
    refine R_iald C hd y2 h dX5_inCommon_163 (fun x3 h => ?_)
    exact R_iret C hr hd h dX5_inCommon_164
  · rw [if_neg c1] at h
    refine lv_iconst (v := 0) hx hb dX5_inCommon_50 (by decide) ?_
    refine lv_istore (lv' := [(7, .int 0), (0, .ref (gR G 140)), (1, .ref (gR G l1)), (2, .int l2), (3, .int l3), (4, .int l4), (5, .int l5), (6, .int l6)]) hx hb dX5_inCommon_51 hl (by decide) rfl (fun ls hl => ?_)
    refine lv_iconst (v := 0) hx hb dX5_inCommon_53 (by decide) ?_
    refine lv_istore (lv' := [(8, .int 0), (7, .int 0), (0, .ref (gR G 140)), (1, .ref (gR G l1)), (2, .int l2), (3, .int l3), (4, .int l4), (5, .int l5), (6, .int l6)]) hx hb dX5_inCommon_54 hl (by decide) rfl (fun ls hl => ?_)
    exact sLX5_inCommon_56 C hr hr43 _ l1 l2 l3 l4 l5 l6 0 0 _ _ _ _ _ kl1 hd (lv_sub hl [2, 3, 4, 5, 6, 7, 8, 1, 0] rfl) h
def LX5_inCommon_43 : Nat → Nat → Int32 → Int32 → Int32 → Int32 → Int32 → St → Option (Int32 × St)
  | 0 => fun _ _ _ _ _ _ _ => none
  | n + 1 => fun l1 l2 l3 l4 l5 l6 S => KX5_inCommon_43 (LX5_inCommon_43 n) l1 l2 l3 l4 l5 l6 S
theorem sLX5_inCommon_43 (C : Cx p s m args meth c cX5_inCommon 11 RX5 G) (hr : meth.sig.returnType = some .int) : ∀ (n : Nat) (l1 : Nat) (l2 : Int32) (l3 : Int32) (l4 : Int32) (l5 : Int32) (l6 : Int32) (S : St) (res : (Int32 × St)) (H : Heap) (locs : List Loc) (ls : Array Slot), kd l1 = 8 → Dy G S s H locs → lv_has ls 11 [(0, .ref (gR G 140)), (1, .ref (gR G l1)), (2, .int l2), (3, .int l3), (4, .int l4), (5, .int l5), (6, .int l6)] → LX5_inCommon_43 n l1 l2 l3 l4 l5 l6 S = some res → W p l e (rmL 3 0 0) s m args below meth c H locs 0 0 (MQ below (QI G res.1 res.2) args s 0 0 (Ab G)) (F0 m 43 ls []) := by
  intro n
  induction n with
  | zero => intro l1 l2 l3 l4 l5 l6 S res H locs ls kl1 hd hl h; cases h
  | succ n ih =>
    intro l1 l2 l3 l4 l5 l6 S res H locs ls kl1 hd hl h
    exact sKX5_inCommon_43 C hr ih kl1 hd hl h
def KX5_inCommon_19 (r19 : Nat → Int32 → Int32 → Int32 → Int32 → Int32 → St → Option (Int32 × St)) (l1 : Nat) (l2 : Int32) (l3 : Int32) (l4 : Int32) (l5 : Int32) (l6 : Int32) (S : St) : Option (Int32 × St) :=
  (if l5 < l6 then (LX5_inCommon_43 FU l1 l2 l3 l4 l5 0 S) else wr S 141 l6 0 fun S => vl (l6 + 1) fun x3 => (r19 l1 l2 l3 l4 l5 x3 S))
set_option maxHeartbeats 4000000 in
set_option maxRecDepth 20000 in
theorem sKX5_inCommon_19 (C : Cx p s m args meth c cX5_inCommon 11 RX5 G) (hr : meth.sig.returnType = some .int) {r19 : Nat → Int32 → Int32 → Int32 → Int32 → Int32 → St → Option (Int32 × St)} (hr19 : ∀ (l1 : Nat) (l2 : Int32) (l3 : Int32) (l4 : Int32) (l5 : Int32) (l6 : Int32) (S : St) (res : (Int32 × St)) (H : Heap) (locs : List Loc) (ls : Array Slot), kd l1 = 8 → Dy G S s H locs → lv_has ls 11 [(0, .ref (gR G 140)), (1, .ref (gR G l1)), (2, .int l2), (3, .int l3), (4, .int l4), (5, .int l5), (6, .int l6)] → r19 l1 l2 l3 l4 l5 l6 S = some res → W p l e (rmL 3 0 0) s m args below meth c H locs 0 0 (MQ below (QI G res.1 res.2) args s 0 0 (Ab G)) (F0 m 19 ls [])) {l1 : Nat} {l2 : Int32} {l3 : Int32} {l4 : Int32} {l5 : Int32} {l6 : Int32} {S : St} {res : (Int32 × St)} {H : Heap} {locs : List Loc} {ls : Array Slot} (kl1 : kd l1 = 8) (hd : Dy G S s H locs) (hl : lv_has ls 11 [(0, .ref (gR G 140)), (1, .ref (gR G l1)), (2, .int l2), (3, .int l3), (4, .int l4), (5, .int l5), (6, .int l6)]) (h : KX5_inCommon_19 r19 l1 l2 l3 l4 l5 l6 S = some res) : W p l e (rmL 3 0 0) s m args below meth c H locs 0 0 (MQ below (QI G res.1 res.2) args s 0 0 (Ab G)) (F0 m 19 ls []) := by
  unfold KX5_inCommon_19 at h
  have hx := C.1.1
  have hb := C.1.2.1
  refine lv_iload hx hb dX5_inCommon_19 (lv_at hl 6 rfl) ?_
  refine lv_iload hx hb dX5_inCommon_21 (lv_at hl 5 rfl) ?_
  refine lv_icmp_gt (tgt := 40) hx hb dX5_inCommon_23 (by decide) (fun c1 => ?_) (fun c1 => ?_)
  · rw [if_pos c1] at h
    refine lv_iconst (v := 0) hx hb dX5_inCommon_40 (by decide) ?_
    refine lv_istore (lv' := [(6, .int 0), (0, .ref (gR G 140)), (1, .ref (gR G l1)), (2, .int l2), (3, .int l3), (4, .int l4), (5, .int l5)]) hx hb dX5_inCommon_41 hl (by decide) rfl (fun ls hl => ?_)
    exact sLX5_inCommon_43 C hr _ l1 l2 l3 l4 l5 0 _ _ _ _ _ kl1 hd (lv_sub hl [1, 2, 3, 4, 5, 6, 0] rfl) h
  · rw [if_neg c1] at h
    refine lv_aload_n hx hb dX5_inCommon_26 rfl (lv_at hl 0 rfl) ?_
    refine gX5_9 C hd (rfl : kd 140 = 5) (q := 141) rfl dX5_inCommon_27 (fun y2 => ?_)
    refine lv_iload hx hb dX5_inCommon_30 (lv_at hl 6 rfl) ?_
    refine lv_iconst (v := 0) hx hb dX5_inCommon_32 (by decide) ?_
    refine R_iast C hd y2 h dX5_inCommon_33 (fun S H locs hd h => ?_)
    refine R_vi h (fun x3 ex3 h => ?_)
    refine lv_iinc (v := x3) (lv' := [(6, .int x3), (0, .ref (gR G 140)), (1, .ref (gR G l1)), (2, .int l2), (3, .int l3), (4, .int l4), (5, .int l5)]) hx hb dX5_inCommon_34 hl (k := 6) rfl (by rw [ex3]; rfl) (by decide) rfl (fun ls hl => ?_)
    refine lv_goto (tgt := 19) hx hb dX5_inCommon_37 (by decide) ?_
    exact hr19 l1 l2 l3 l4 l5 x3 _ _ _ _ _ kl1 hd (lv_sub hl [1, 2, 3, 4, 5, 6, 0] rfl) h
def LX5_inCommon_19 : Nat → Nat → Int32 → Int32 → Int32 → Int32 → Int32 → St → Option (Int32 × St)
  | 0 => fun _ _ _ _ _ _ _ => none
  | n + 1 => fun l1 l2 l3 l4 l5 l6 S => KX5_inCommon_19 (LX5_inCommon_19 n) l1 l2 l3 l4 l5 l6 S
theorem sLX5_inCommon_19 (C : Cx p s m args meth c cX5_inCommon 11 RX5 G) (hr : meth.sig.returnType = some .int) : ∀ (n : Nat) (l1 : Nat) (l2 : Int32) (l3 : Int32) (l4 : Int32) (l5 : Int32) (l6 : Int32) (S : St) (res : (Int32 × St)) (H : Heap) (locs : List Loc) (ls : Array Slot), kd l1 = 8 → Dy G S s H locs → lv_has ls 11 [(0, .ref (gR G 140)), (1, .ref (gR G l1)), (2, .int l2), (3, .int l3), (4, .int l4), (5, .int l5), (6, .int l6)] → LX5_inCommon_19 n l1 l2 l3 l4 l5 l6 S = some res → W p l e (rmL 3 0 0) s m args below meth c H locs 0 0 (MQ below (QI G res.1 res.2) args s 0 0 (Ab G)) (F0 m 19 ls []) := by
  intro n
  induction n with
  | zero => intro l1 l2 l3 l4 l5 l6 S res H locs ls kl1 hd hl h; cases h
  | succ n ih =>
    intro l1 l2 l3 l4 l5 l6 S res H locs ls kl1 hd hl h
    exact sKX5_inCommon_19 C hr ih kl1 hd hl h
def fX5_inCommon (a1 : Nat) (a2 : Int32) (a3 : Int32) (S : St) : Option (Int32 × St) :=
  rd S (sr a1 4) a2 fun x2 => rd S (sr a1 4) a3 fun x4 => (LX5_inCommon_19 FU a1 a2 a3 x2 x4 0 S)
set_option maxHeartbeats 4000000 in
set_option maxRecDepth 20000 in
theorem sfX5_inCommon (C : Cx p s m args meth c cX5_inCommon 11 RX5 G) (hr : meth.sig.returnType = some .int) {a1 : Nat} {a2 : Int32} {a3 : Int32} {S : St} {res : (Int32 × St)} {H : Heap} {locs : List Loc} {ls : Array Slot} (k1 : kd a1 = 8) (hd : Dy G S s H locs) (hl : lv_has ls 11 [(0, .ref (gR G 140)), (1, .ref (gR G a1)), (2, .int a2), (3, .int a3)]) (h : fX5_inCommon a1 a2 a3 S = some res) : W p l e (rmL 3 0 0) s m args below meth c H locs 0 0 (MQ below (QI G res.1 res.2) args s 0 0 (Ab G)) (F0 m 0 ls []) := by
  unfold fX5_inCommon at h
  have hx := C.1.1
  have hb := C.1.2.1
  refine lv_aload_n hx hb dX5_inCommon_0 rfl (lv_at hl 1 rfl) ?_
  refine gX5_25 C hd k1 (q := sr a1 4) rfl dX5_inCommon_1 (fun y1 => ?_)
  refine lv_iload_n hx hb dX5_inCommon_4 rfl (lv_at hl 2 rfl) ?_
  refine R_iald C hd y1 h dX5_inCommon_5 (fun x2 h => ?_)
  refine lv_istore (lv' := [(4, .int x2), (0, .ref (gR G 140)), (1, .ref (gR G a1)), (2, .int a2), (3, .int a3)]) hx hb dX5_inCommon_6 hl (by decide) rfl (fun ls hl => ?_)
  refine lv_aload_n hx hb dX5_inCommon_8 rfl (lv_at hl 2 rfl) ?_
  refine gX5_25 C hd k1 (q := sr a1 4) rfl dX5_inCommon_9 (fun y3 => ?_)
  refine lv_iload_n hx hb dX5_inCommon_12 rfl (lv_at hl 4 rfl) ?_
  refine R_iald C hd y3 h dX5_inCommon_13 (fun x4 h => ?_)
  refine lv_istore (lv' := [(5, .int x4), (4, .int x2), (0, .ref (gR G 140)), (1, .ref (gR G a1)), (2, .int a2), (3, .int a3)]) hx hb dX5_inCommon_14 hl (by decide) rfl (fun ls hl => ?_)
  refine lv_iconst (v := 0) hx hb dX5_inCommon_16 (by decide) ?_
  refine lv_istore (lv' := [(6, .int 0), (5, .int x4), (4, .int x2), (0, .ref (gR G 140)), (1, .ref (gR G a1)), (2, .int a2), (3, .int a3)]) hx hb dX5_inCommon_17 hl (by decide) rfl (fun ls hl => ?_)
  exact sLX5_inCommon_19 C hr _ a1 a2 a3 x2 x4 0 _ _ _ _ _ k1 hd (lv_sub hl [3, 4, 5, 6, 2, 1, 0] rfl) h
set_option maxRecDepth 20000 in
theorem ccX5_inCommon (l : Launch) (G : Gt) {a1 : Nat} {a2 : Int32} {a3 : Int32} {S : St} {res : (Int32 × St)} (k1 : kd a1 = 8) (h : fX5_inCommon a1 a2 a3 S = some res) : Met l yX5_inCommon (wm yX5_inCommon cX5_inCommon 11 (some .int)) (rmL 3 0 0) (PcW G S [.ref (gR G 140), .ref (gR G a1), .int a2, .int a3]) (QI G res.1 res.2) 0 0 (Ab G) := by
  refine Met.ofW (cc := cX5_inCommon) (maxL := 11) (ret := (some .int)) (by decide) rfl ?_
  intro p e s m args below meth c s₁ B hml hv
  obtain ⟨rfl, hK, hP⟩ := hv
  have C : Cx p s m _ meth c cX5_inCommon 11 RX5 G := ⟨⟨B.exec, B.bytes, hml, findClass_of_methodNamed B.named, fun w hw => atoms_spec (ws := wm yX5_inCommon cX5_inCommon 11 (some .int)) B.pre w (List.mem_cons_of_mem _ hw)⟩, B.notSynchronized, hK⟩
  have hl := lv_entry ([.ref (gR G 140), .ref (gR G a1), .int a2, .int a3]) (n := 11) (Nat.le_of_ble_eq_true rfl)
  rw [lg_entry_eq]
  generalize (lg_sl ([.ref (gR G 140), .ref (gR G a1), .int a2, .int a3]) ++ List.replicate (11 - (lg_sl ([.ref (gR G 140), .ref (gR G a1), .int a2, .int a3])).length) Slot.unset).toArray = ls at hl ⊢
  exact sfX5_inCommon C B.returns k1 ⟨hP, va_S.rf⟩ hl h
def BX5_nearestCouple_60 (r7 : Nat → Int32 → Int32 → Int32 → St → Option (Int32 × St)) (r22 : Nat → Int32 → Int32 → Int32 → Int32 → St → Option (Int32 × St)) (l1 : Nat) (l2 : Int32) (l3 : Int32) (l4 : Int32) (l5 : Int32) (S : St) : Option (Int32 × St) :=
  vl (l5 + 1) fun x1 => (r22 l1 l2 l3 l4 x1 S)
set_option maxHeartbeats 4000000 in
set_option maxRecDepth 20000 in
theorem sBX5_nearestCouple_60 (C : Cx p s m args meth c cX5_nearestCouple 7 RX5 G) (hr : meth.sig.returnType = some .int) {r7 : Nat → Int32 → Int32 → Int32 → St → Option (Int32 × St)} {r22 : Nat → Int32 → Int32 → Int32 → Int32 → St → Option (Int32 × St)} (hr7 : ∀ (l1 : Nat) (l2 : Int32) (l3 : Int32) (l4 : Int32) (S : St) (res : (Int32 × St)) (H : Heap) (locs : List Loc) (ls : Array Slot), kd l1 = 8 → Dy G S s H locs → lv_has ls 7 [(0, .ref (gR G 140)), (1, .ref (gR G l1)), (2, .int l2), (3, .int l3), (4, .int l4)] → r7 l1 l2 l3 l4 S = some res → W p l e (rmL 4 0 0) s m args below meth c H locs 0 0 (MQ below (QI G res.1 res.2) args s 0 0 (Ab G)) (F0 m 7 ls [])) (hr22 : ∀ (l1 : Nat) (l2 : Int32) (l3 : Int32) (l4 : Int32) (l5 : Int32) (S : St) (res : (Int32 × St)) (H : Heap) (locs : List Loc) (ls : Array Slot), kd l1 = 8 → Dy G S s H locs → lv_has ls 7 [(0, .ref (gR G 140)), (1, .ref (gR G l1)), (2, .int l2), (3, .int l3), (4, .int l4), (5, .int l5)] → r22 l1 l2 l3 l4 l5 S = some res → W p l e (rmL 4 0 0) s m args below meth c H locs 0 0 (MQ below (QI G res.1 res.2) args s 0 0 (Ab G)) (F0 m 22 ls [])) {l1 : Nat} {l2 : Int32} {l3 : Int32} {l4 : Int32} {l5 : Int32} {S : St} {res : (Int32 × St)} {H : Heap} {locs : List Loc} {ls : Array Slot} (kl1 : kd l1 = 8) (hd : Dy G S s H locs) (hl : lv_has ls 7 [(0, .ref (gR G 140)), (1, .ref (gR G l1)), (2, .int l2), (3, .int l3), (4, .int l4), (5, .int l5)]) (h : BX5_nearestCouple_60 r7 r22 l1 l2 l3 l4 l5 S = some res) : W p l e (rmL 4 0 0) s m args below meth c H locs 0 0 (MQ below (QI G res.1 res.2) args s 0 0 (Ab G)) (F0 m 60 ls []) := by
  unfold BX5_nearestCouple_60 at h
  have hx := C.1.1
  have hb := C.1.2.1
  refine R_vi h (fun x1 ex1 h => ?_)
  refine lv_iinc (v := x1) (lv' := [(5, .int x1), (0, .ref (gR G 140)), (1, .ref (gR G l1)), (2, .int l2), (3, .int l3), (4, .int l4)]) hx hb dX5_nearestCouple_60 hl (k := 5) rfl (by rw [ex1]; rfl) (by decide) rfl (fun ls hl => ?_)
  refine lv_goto (tgt := 22) hx hb dX5_nearestCouple_63 (by decide) ?_
  exact hr22 l1 l2 l3 l4 x1 _ _ _ _ _ kl1 hd (lv_sub hl [1, 2, 3, 4, 5, 0] rfl) h
def KX5_nearestCouple_22 (r7 : Nat → Int32 → Int32 → Int32 → St → Option (Int32 × St)) (r22 : Nat → Int32 → Int32 → Int32 → Int32 → St → Option (Int32 × St)) (l1 : Nat) (l2 : Int32) (l3 : Int32) (l4 : Int32) (l5 : Int32) (S : St) : Option (Int32 × St) :=
  (if (S l1 0) ≤ l5 then vl (l4 + 1) fun x2 => (r7 l1 l2 l3 x2 S) else bd (fX5_inCommon l1 l4 l5 S) fun x3 S => (if x3 ≤ l2 then (BX5_nearestCouple_60 r7 r22 l1 l2 l3 l4 l5 S) else vl ((l4 * 10) + l5) fun x5 => (BX5_nearestCouple_60 r7 r22 l1 x3 x5 l4 l5 S)))
set_option maxHeartbeats 4000000 in
set_option maxRecDepth 20000 in
theorem sKX5_nearestCouple_22 (C : Cx p s m args meth c cX5_nearestCouple 7 RX5 G) (hr : meth.sig.returnType = some .int) {r7 : Nat → Int32 → Int32 → Int32 → St → Option (Int32 × St)} {r22 : Nat → Int32 → Int32 → Int32 → Int32 → St → Option (Int32 × St)} (hr7 : ∀ (l1 : Nat) (l2 : Int32) (l3 : Int32) (l4 : Int32) (S : St) (res : (Int32 × St)) (H : Heap) (locs : List Loc) (ls : Array Slot), kd l1 = 8 → Dy G S s H locs → lv_has ls 7 [(0, .ref (gR G 140)), (1, .ref (gR G l1)), (2, .int l2), (3, .int l3), (4, .int l4)] → r7 l1 l2 l3 l4 S = some res → W p l e (rmL 4 0 0) s m args below meth c H locs 0 0 (MQ below (QI G res.1 res.2) args s 0 0 (Ab G)) (F0 m 7 ls [])) (hr22 : ∀ (l1 : Nat) (l2 : Int32) (l3 : Int32) (l4 : Int32) (l5 : Int32) (S : St) (res : (Int32 × St)) (H : Heap) (locs : List Loc) (ls : Array Slot), kd l1 = 8 → Dy G S s H locs → lv_has ls 7 [(0, .ref (gR G 140)), (1, .ref (gR G l1)), (2, .int l2), (3, .int l3), (4, .int l4), (5, .int l5)] → r22 l1 l2 l3 l4 l5 S = some res → W p l e (rmL 4 0 0) s m args below meth c H locs 0 0 (MQ below (QI G res.1 res.2) args s 0 0 (Ab G)) (F0 m 22 ls [])) {l1 : Nat} {l2 : Int32} {l3 : Int32} {l4 : Int32} {l5 : Int32} {S : St} {res : (Int32 × St)} {H : Heap} {locs : List Loc} {ls : Array Slot} (kl1 : kd l1 = 8) (hd : Dy G S s H locs) (hl : lv_has ls 7 [(0, .ref (gR G 140)), (1, .ref (gR G l1)), (2, .int l2), (3, .int l3), (4, .int l4), (5, .int l5)]) (h : KX5_nearestCouple_22 r7 r22 l1 l2 l3 l4 l5 S = some res) : W p l e (rmL 4 0 0) s m args below meth c H locs 0 0 (MQ below (QI G res.1 res.2) args s 0 0 (Ab G)) (F0 m 22 ls []) := by
  unfold KX5_nearestCouple_22 at h
  have hx := C.1.1
  have hb := C.1.2.1
  refine lv_iload hx hb dX5_nearestCouple_22 (lv_at hl 5 rfl) ?_
  refine lv_aload_n hx hb dX5_nearestCouple_24 rfl (lv_at hl 1 rfl) ?_
  refine gX5_15 C hd kl1 dX5_nearestCouple_25 ?_
  refine lv_icmp_ge (tgt := 66) hx hb dX5_nearestCouple_28 (by decide) (fun c1 => ?_) (fun c1 => ?_)
  · rw [if_pos c1] at h
    refine R_vi h (fun x2 ex2 h => ?_)
    refine lv_iinc (v := x2) (lv' := [(4, .int x2), (0, .ref (gR G 140)), (1, .ref (gR G l1)), (2, .int l2), (3, .int l3), (5, .int l5)]) hx hb dX5_nearestCouple_66 hl (k := 4) rfl (by rw [ex2]; rfl) (by decide) rfl (fun ls hl => ?_)
    refine lv_goto (tgt := 7) hx hb dX5_nearestCouple_69 (by decide) ?_
    exact hr7 l1 l2 l3 x2 _ _ _ _ _ kl1 hd (lv_sub hl [1, 2, 3, 4, 0] rfl) h
  · rw [if_neg c1] at h
    refine lv_aload_n hx hb dX5_nearestCouple_31 rfl (lv_at hl 0 rfl) ?_
    refine lv_aload_n hx hb dX5_nearestCouple_32 rfl (lv_at hl 1 rfl) ?_
    refine lv_iload hx hb dX5_nearestCouple_33 (lv_at hl 4 rfl) ?_
    refine lv_iload hx hb dX5_nearestCouple_35 (lv_at hl 5 rfl) ?_
    obtain ⟨x3, S1, hc, h⟩ := bd_some h
    refine R_cVi C hd (ccX5_inCommon l G kl1 hc) kX5_37 rfl (by decide) (rfl : kd 140 = 5) hl.1 ⟨by decide, by decide⟩ rfl rfl (Nat.le_of_ble_eq_true rfl) dX5_nearestCouple_37 ⟨Nat.zero_le _, Nat.zero_le _⟩ (fun H locs hd => ?_)
    generalize S1 = S at h hd
    refine lv_istore (lv' := [(6, .int x3), (0, .ref (gR G 140)), (1, .ref (gR G l1)), (2, .int l2), (3, .int l3), (4, .int l4), (5, .int l5)]) hx hb dX5_nearestCouple_40 hl (by decide) rfl (fun ls hl => ?_)
    refine lv_iload hx hb dX5_nearestCouple_42 (lv_at hl 0 rfl) ?_
    refine lv_iload_n hx hb dX5_nearestCouple_44 rfl (lv_at hl 3 rfl) ?_
    refine lv_icmp_le (tgt := 60) hx hb dX5_nearestCouple_45 (by decide) (fun c4 => ?_) (fun c4 => ?_)
    · rw [if_pos c4] at h
      exact sBX5_nearestCouple_60 C hr hr7 hr22 kl1 hd (lv_sub hl [1, 2, 3, 4, 5, 6] rfl) h
    · rw [if_neg c4] at h
      refine lv_iload hx hb dX5_nearestCouple_48 (lv_at hl 0 rfl) ?_
      refine lv_istore_n (lv' := [(2, .int x3), (6, .int x3), (0, .ref (gR G 140)), (1, .ref (gR G l1)), (3, .int l3), (4, .int l4), (5, .int l5)]) hx hb dX5_nearestCouple_50 rfl hl (by decide) rfl (fun ls hl => ?_)
      refine lv_iload hx hb dX5_nearestCouple_51 (lv_at hl 5 rfl) ?_
      refine lv_bipush (v := 10) hx hb dX5_nearestCouple_53 (by decide) ?_
      refine lv_imul hx hb dX5_nearestCouple_55 ?_
      refine lv_iload hx hb dX5_nearestCouple_56 (lv_at hl 6 rfl) ?_
      refine lv_iadd hx hb dX5_nearestCouple_58 ?_
      refine R_vl h (fun x5 h => ?_)
      refine lv_istore_n (lv' := [(3, .int x5), (2, .int x3), (6, .int x3), (0, .ref (gR G 140)), (1, .ref (gR G l1)), (4, .int l4), (5, .int l5)]) hx hb dX5_nearestCouple_59 rfl hl (by decide) rfl (fun ls hl => ?_)
      exact sBX5_nearestCouple_60 C hr hr7 hr22 kl1 hd (lv_sub hl [3, 4, 1, 0, 5, 6] rfl) h
def LX5_nearestCouple_22 (r7 : Nat → Int32 → Int32 → Int32 → St → Option (Int32 × St)) : Nat → Nat → Int32 → Int32 → Int32 → Int32 → St → Option (Int32 × St)
  | 0 => fun _ _ _ _ _ _ => none
  | n + 1 => fun l1 l2 l3 l4 l5 S => KX5_nearestCouple_22 r7 (LX5_nearestCouple_22 r7 n) l1 l2 l3 l4 l5 S
theorem sLX5_nearestCouple_22 (C : Cx p s m args meth c cX5_nearestCouple 7 RX5 G) (hr : meth.sig.returnType = some .int) {r7 : Nat → Int32 → Int32 → Int32 → St → Option (Int32 × St)} (hr7 : ∀ (l1 : Nat) (l2 : Int32) (l3 : Int32) (l4 : Int32) (S : St) (res : (Int32 × St)) (H : Heap) (locs : List Loc) (ls : Array Slot), kd l1 = 8 → Dy G S s H locs → lv_has ls 7 [(0, .ref (gR G 140)), (1, .ref (gR G l1)), (2, .int l2), (3, .int l3), (4, .int l4)] → r7 l1 l2 l3 l4 S = some res → W p l e (rmL 4 0 0) s m args below meth c H locs 0 0 (MQ below (QI G res.1 res.2) args s 0 0 (Ab G)) (F0 m 7 ls [])) : ∀ (n : Nat) (l1 : Nat) (l2 : Int32) (l3 : Int32) (l4 : Int32) (l5 : Int32) (S : St) (res : (Int32 × St)) (H : Heap) (locs : List Loc) (ls : Array Slot), kd l1 = 8 → Dy G S s H locs → lv_has ls 7 [(0, .ref (gR G 140)), (1, .ref (gR G l1)), (2, .int l2), (3, .int l3), (4, .int l4), (5, .int l5)] → LX5_nearestCouple_22 r7 n l1 l2 l3 l4 l5 S = some res → W p l e (rmL 4 0 0) s m args below meth c H locs 0 0 (MQ below (QI G res.1 res.2) args s 0 0 (Ab G)) (F0 m 22 ls []) := by
  intro n
  induction n with
  | zero => intro l1 l2 l3 l4 l5 S res H locs ls kl1 hd hl h; cases h
  | succ n ih =>
    intro l1 l2 l3 l4 l5 S res H locs ls kl1 hd hl h
    exact sKX5_nearestCouple_22 C hr hr7 ih kl1 hd hl h
def KX5_nearestCouple_7 (r7 : Nat → Int32 → Int32 → Int32 → St → Option (Int32 × St)) (l1 : Nat) (l2 : Int32) (l3 : Int32) (l4 : Int32) (S : St) : Option (Int32 × St) :=
  (if (S l1 0) ≤ l4 then ri l3 S else vl (l4 + 1) fun x2 => (LX5_nearestCouple_22 r7 FU l1 l2 l3 l4 x2 S))
set_option maxHeartbeats 4000000 in
set_option maxRecDepth 20000 in
theorem sKX5_nearestCouple_7 (C : Cx p s m args meth c cX5_nearestCouple 7 RX5 G) (hr : meth.sig.returnType = some .int) {r7 : Nat → Int32 → Int32 → Int32 → St → Option (Int32 × St)} (hr7 : ∀ (l1 : Nat) (l2 : Int32) (l3 : Int32) (l4 : Int32) (S : St) (res : (Int32 × St)) (H : Heap) (locs : List Loc) (ls : Array Slot), kd l1 = 8 → Dy G S s H locs → lv_has ls 7 [(0, .ref (gR G 140)), (1, .ref (gR G l1)), (2, .int l2), (3, .int l3), (4, .int l4)] → r7 l1 l2 l3 l4 S = some res → W p l e (rmL 4 0 0) s m args below meth c H locs 0 0 (MQ below (QI G res.1 res.2) args s 0 0 (Ab G)) (F0 m 7 ls [])) {l1 : Nat} {l2 : Int32} {l3 : Int32} {l4 : Int32} {S : St} {res : (Int32 × St)} {H : Heap} {locs : List Loc} {ls : Array Slot} (kl1 : kd l1 = 8) (hd : Dy G S s H locs) (hl : lv_has ls 7 [(0, .ref (gR G 140)), (1, .ref (gR G l1)), (2, .int l2), (3, .int l3), (4, .int l4)]) (h : KX5_nearestCouple_7 r7 l1 l2 l3 l4 S = some res) : W p l e (rmL 4 0 0) s m args below meth c H locs 0 0 (MQ below (QI G res.1 res.2) args s 0 0 (Ab G)) (F0 m 7 ls []) := by
  unfold KX5_nearestCouple_7 at h
  have hx := C.1.1
  have hb := C.1.2.1
  refine lv_iload hx hb dX5_nearestCouple_7 (lv_at hl 4 rfl) ?_
  refine lv_aload_n hx hb dX5_nearestCouple_9 rfl (lv_at hl 1 rfl) ?_
  refine gX5_15 C hd kl1 dX5_nearestCouple_10 ?_
  refine lv_icmp_ge (tgt := 72) hx hb dX5_nearestCouple_13 (by decide) (fun c1 => ?_) (fun c1 => ?_)
  · rw [if_pos c1] at h
    refine lv_iload_n hx hb dX5_nearestCouple_72 rfl (lv_at hl 3 rfl) ?_
    exact R_iret C hr hd h dX5_nearestCouple_73
  · rw [if_neg c1] at h
    refine lv_iload hx hb dX5_nearestCouple_16 (lv_at hl 4 rfl) ?_
    refine lv_iconst (v := 1) hx hb dX5_nearestCouple_18 (by decide) ?_
    refine lv_iadd hx hb dX5_nearestCouple_19 ?_
    refine R_vl h (fun x2 h => ?_)
    refine lv_istore (lv' := [(5, .int x2), (0, .ref (gR G 140)), (1, .ref (gR G l1)), (2, .int l2), (3, .int l3), (4, .int l4)]) hx hb dX5_nearestCouple_20 hl (by decide) rfl (fun ls hl => ?_)
    exact sLX5_nearestCouple_22 C hr hr7 _ l1 l2 l3 l4 x2 _ _ _ _ _ kl1 hd (lv_sub hl [1, 2, 3, 4, 5, 0] rfl) h
def LX5_nearestCouple_7 : Nat → Nat → Int32 → Int32 → Int32 → St → Option (Int32 × St)
  | 0 => fun _ _ _ _ _ => none
  | n + 1 => fun l1 l2 l3 l4 S => KX5_nearestCouple_7 (LX5_nearestCouple_7 n) l1 l2 l3 l4 S
theorem sLX5_nearestCouple_7 (C : Cx p s m args meth c cX5_nearestCouple 7 RX5 G) (hr : meth.sig.returnType = some .int) : ∀ (n : Nat) (l1 : Nat) (l2 : Int32) (l3 : Int32) (l4 : Int32) (S : St) (res : (Int32 × St)) (H : Heap) (locs : List Loc) (ls : Array Slot), kd l1 = 8 → Dy G S s H locs → lv_has ls 7 [(0, .ref (gR G 140)), (1, .ref (gR G l1)), (2, .int l2), (3, .int l3), (4, .int l4)] → LX5_nearestCouple_7 n l1 l2 l3 l4 S = some res → W p l e (rmL 4 0 0) s m args below meth c H locs 0 0 (MQ below (QI G res.1 res.2) args s 0 0 (Ab G)) (F0 m 7 ls []) := by
  intro n
  induction n with
  | zero => intro l1 l2 l3 l4 S res H locs ls kl1 hd hl h; cases h
  | succ n ih =>
    intro l1 l2 l3 l4 S res H locs ls kl1 hd hl h
    exact sKX5_nearestCouple_7 C hr ih kl1 hd hl h
def fX5_nearestCouple (a1 : Nat) (S : St) : Option (Int32 × St) :=
  (LX5_nearestCouple_7 FU a1 ((-1)) ((-1)) 0 S)
set_option maxHeartbeats 4000000 in
set_option maxRecDepth 20000 in
theorem sfX5_nearestCouple (C : Cx p s m args meth c cX5_nearestCouple 7 RX5 G) (hr : meth.sig.returnType = some .int) {a1 : Nat} {S : St} {res : (Int32 × St)} {H : Heap} {locs : List Loc} {ls : Array Slot} (k1 : kd a1 = 8) (hd : Dy G S s H locs) (hl : lv_has ls 7 [(0, .ref (gR G 140)), (1, .ref (gR G a1))]) (h : fX5_nearestCouple a1 S = some res) : W p l e (rmL 4 0 0) s m args below meth c H locs 0 0 (MQ below (QI G res.1 res.2) args s 0 0 (Ab G)) (F0 m 0 ls []) := by
  unfold fX5_nearestCouple at h
  have hx := C.1.1
  have hb := C.1.2.1
  refine lv_iconst (v := -1) hx hb dX5_nearestCouple_0 (by decide) ?_
  refine lv_istore_n (lv' := [(2, .int ((-1))), (0, .ref (gR G 140)), (1, .ref (gR G a1))]) hx hb dX5_nearestCouple_1 rfl hl (by decide) rfl (fun ls hl => ?_)
  refine lv_iconst (v := -1) hx hb dX5_nearestCouple_2 (by decide) ?_
  refine lv_istore_n (lv' := [(3, .int ((-1))), (2, .int ((-1))), (0, .ref (gR G 140)), (1, .ref (gR G a1))]) hx hb dX5_nearestCouple_3 rfl hl (by decide) rfl (fun ls hl => ?_)
  refine lv_iconst (v := 0) hx hb dX5_nearestCouple_4 (by decide) ?_
  refine lv_istore (lv' := [(4, .int 0), (3, .int ((-1))), (2, .int ((-1))), (0, .ref (gR G 140)), (1, .ref (gR G a1))]) hx hb dX5_nearestCouple_5 hl (by decide) rfl (fun ls hl => ?_)
  exact sLX5_nearestCouple_7 C hr _ a1 ((-1)) ((-1)) 0 _ _ _ _ _ k1 hd (lv_sub hl [3, 4, 2, 1, 0] rfl) h
set_option maxRecDepth 20000 in
theorem ccX5_nearestCouple (l : Launch) (G : Gt) {a1 : Nat} {S : St} {res : (Int32 × St)} (k1 : kd a1 = 8) (h : fX5_nearestCouple a1 S = some res) : Met l yX5_nearestCouple (wm yX5_nearestCouple cX5_nearestCouple 7 (some .int)) (rmL 4 0 0) (PcW G S [.ref (gR G 140), .ref (gR G a1)]) (QI G res.1 res.2) 0 0 (Ab G) := by
  refine Met.ofW (cc := cX5_nearestCouple) (maxL := 7) (ret := (some .int)) (by decide) rfl ?_
  intro p e s m args below meth c s₁ B hml hv
  obtain ⟨rfl, hK, hP⟩ := hv
  have C : Cx p s m _ meth c cX5_nearestCouple 7 RX5 G := ⟨⟨B.exec, B.bytes, hml, findClass_of_methodNamed B.named, fun w hw => atoms_spec (ws := wm yX5_nearestCouple cX5_nearestCouple 7 (some .int)) B.pre w (List.mem_cons_of_mem _ hw)⟩, B.notSynchronized, hK⟩
  have hl := lv_entry ([.ref (gR G 140), .ref (gR G a1)]) (n := 7) (Nat.le_of_ble_eq_true rfl)
  rw [lg_entry_eq]
  generalize (lg_sl ([.ref (gR G 140), .ref (gR G a1)]) ++ List.replicate (7 - (lg_sl ([.ref (gR G 140), .ref (gR G a1)])).length) Slot.unset).toArray = ls at hl ⊢
  exact sfX5_nearestCouple C B.returns k1 ⟨hP, va_S.rf⟩ hl h
def BX5_goOn_80 (r16 : Nat → Int32 → Int32 → Int32 → Int32 → St → Option St) (l1 : Nat) (l2 : Int32) (l3 : Int32) (l4 : Int32) (l5 : Int32) (S : St) : Option St :=
  vl (l5 + 1) fun x1 => (r16 l1 l2 l3 l4 x1 S)
set_option maxHeartbeats 4000000 in
set_option maxRecDepth 20000 in
theorem sBX5_goOn_80 (C : Cx p s m args meth c cX5_goOn 7 RX5 G) (hr : meth.sig.returnType = none) {r16 : Nat → Int32 → Int32 → Int32 → Int32 → St → Option St} (hr16 : ∀ (l1 : Nat) (l2 : Int32) (l3 : Int32) (l4 : Int32) (l5 : Int32) (S : St) (res : St) (H : Heap) (locs : List Loc) (ls : Array Slot), kd l1 = 8 → Dy G S s H locs → lv_has ls 7 [(0, .ref (gR G 140)), (1, .ref (gR G l1)), (2, .int l2), (3, .int l3), (4, .int l4), (5, .int l5)] → r16 l1 l2 l3 l4 l5 S = some res → W p l e (rmL 3 0 0) s m args below meth c H locs 0 0 (MQ below (QV G res) args s 0 0 (Ab G)) (F0 m 16 ls [])) {l1 : Nat} {l2 : Int32} {l3 : Int32} {l4 : Int32} {l5 : Int32} {S : St} {res : St} {H : Heap} {locs : List Loc} {ls : Array Slot} (kl1 : kd l1 = 8) (hd : Dy G S s H locs) (hl : lv_has ls 7 [(0, .ref (gR G 140)), (1, .ref (gR G l1)), (2, .int l2), (3, .int l3), (4, .int l4), (5, .int l5)]) (h : BX5_goOn_80 r16 l1 l2 l3 l4 l5 S = some res) : W p l e (rmL 3 0 0) s m args below meth c H locs 0 0 (MQ below (QV G res) args s 0 0 (Ab G)) (F0 m 80 ls []) := by
  unfold BX5_goOn_80 at h
  have hx := C.1.1
  have hb := C.1.2.1
  refine R_vi h (fun x1 ex1 h => ?_)
  refine lv_iinc (v := x1) (lv' := [(5, .int x1), (0, .ref (gR G 140)), (1, .ref (gR G l1)), (2, .int l2), (3, .int l3), (4, .int l4)]) hx hb dX5_goOn_80 hl (k := 5) rfl (by rw [ex1]; rfl) (by decide) rfl (fun ls hl => ?_)
  refine lv_goto (tgt := 16) hx hb dX5_goOn_83 (by decide) ?_
  exact hr16 l1 l2 l3 l4 x1 _ _ _ _ _ kl1 hd (lv_sub hl [1, 2, 3, 4, 5, 0] rfl) h
def KX5_goOn_16 (r16 : Nat → Int32 → Int32 → Int32 → Int32 → St → Option St) (l1 : Nat) (l2 : Int32) (l3 : Int32) (l4 : Int32) (l5 : Int32) (S : St) : Option St :=
  (if (S l1 0) ≤ l5 then some S else (if ((l2 >>> (l5 &&& 31)) &&& 1) = 0 then vl (((l2 ||| ((1 : Int32) <<< (l5 &&& 31))) * 8) + l5) fun x3 => rd S 141 x3 fun x6 => rd S (sr l1 7) ((l3 * 8) + l5) fun x8 => vl (if (l4 + x8) < x6 then l4 + x8 else x6) fun x9 => wr S 141 x3 x9 fun S => (BX5_goOn_80 r16 l1 l2 l3 l4 l5 S) else (BX5_goOn_80 r16 l1 l2 l3 l4 l5 S)))
set_option maxHeartbeats 4000000 in
set_option maxRecDepth 20000 in
theorem sKX5_goOn_16 (C : Cx p s m args meth c cX5_goOn 7 RX5 G) (hr : meth.sig.returnType = none) {r16 : Nat → Int32 → Int32 → Int32 → Int32 → St → Option St} (hr16 : ∀ (l1 : Nat) (l2 : Int32) (l3 : Int32) (l4 : Int32) (l5 : Int32) (S : St) (res : St) (H : Heap) (locs : List Loc) (ls : Array Slot), kd l1 = 8 → Dy G S s H locs → lv_has ls 7 [(0, .ref (gR G 140)), (1, .ref (gR G l1)), (2, .int l2), (3, .int l3), (4, .int l4), (5, .int l5)] → r16 l1 l2 l3 l4 l5 S = some res → W p l e (rmL 3 0 0) s m args below meth c H locs 0 0 (MQ below (QV G res) args s 0 0 (Ab G)) (F0 m 16 ls [])) {l1 : Nat} {l2 : Int32} {l3 : Int32} {l4 : Int32} {l5 : Int32} {S : St} {res : St} {H : Heap} {locs : List Loc} {ls : Array Slot} (kl1 : kd l1 = 8) (hd : Dy G S s H locs) (hl : lv_has ls 7 [(0, .ref (gR G 140)), (1, .ref (gR G l1)), (2, .int l2), (3, .int l3), (4, .int l4), (5, .int l5)]) (h : KX5_goOn_16 r16 l1 l2 l3 l4 l5 S = some res) : W p l e (rmL 3 0 0) s m args below meth c H locs 0 0 (MQ below (QV G res) args s 0 0 (Ab G)) (F0 m 16 ls []) := by
  unfold KX5_goOn_16 at h
  have hx := C.1.1
  have hb := C.1.2.1
  refine lv_iload hx hb dX5_goOn_16 (lv_at hl 5 rfl) ?_
  refine lv_aload_n hx hb dX5_goOn_18 rfl (lv_at hl 1 rfl) ?_
  refine gX5_15 C hd kl1 dX5_goOn_19 ?_
  refine lv_icmp_ge (tgt := 86) hx hb dX5_goOn_22 (by decide) (fun c1 => ?_) (fun c1 => ?_)
  · rw [if_pos c1] at h
    exact R_vret C hr hd h dX5_goOn_86
  · rw [if_neg c1] at h
    refine lv_iload_n hx hb dX5_goOn_25 rfl (lv_at hl 2 rfl) ?_
    refine lv_iload hx hb dX5_goOn_26 (lv_at hl 5 rfl) ?_
    refine lv_ishr hx hb dX5_goOn_28 ?_
    refine lv_iconst (v := 1) hx hb dX5_goOn_29 (by decide) ?_
    refine lv_iand hx hb dX5_goOn_30 ?_
    refine lv_if_ne (tgt := 80) hx hb dX5_goOn_31 (by decide) (fun c2 => ?_) (fun c2 => ?_)
    · rw [if_neg c2] at h
      exact sBX5_goOn_80 C hr hr16 kl1 hd (lv_sub hl [0, 1, 2, 3, 4, 5] rfl) h
    · rw [if_pos c2] at h
      refine lv_iload_n hx hb dX5_goOn_34 rfl (lv_at hl 2 rfl) ?_
      refine lv_iconst (v := 1) hx hb dX5_goOn_35 (by decide) ?_
      refine lv_iload hx hb dX5_goOn_36 (lv_at hl 5 rfl) ?_
      refine lv_ishl hx hb dX5_goOn_38 ?_
      refine lv_ior hx hb dX5_goOn_39 ?_
      refine lv_bipush (v := 8) hx hb dX5_goOn_40 (by decide) ?_
      refine lv_imul hx hb dX5_goOn_42 ?_
      refine lv_iload hx hb dX5_goOn_43 (lv_at hl 5 rfl) ?_
      refine lv_iadd hx hb dX5_goOn_45 ?_
      refine R_vl h (fun x3 h => ?_)
      refine lv_istore (lv' := [(6, .int x3), (0, .ref (gR G 140)), (1, .ref (gR G l1)), (2, .int l2), (3, .int l3), (4, .int l4), (5, .int l5)]) hx hb dX5_goOn_46 hl (by decide) rfl (fun ls hl => ?_)
      refine lv_aload_n hx hb dX5_goOn_48 rfl (lv_at hl 1 rfl) ?_
      refine gX5_9 C hd (rfl : kd 140 = 5) (q := 141) rfl dX5_goOn_49 (fun y4 => ?_)
      refine lv_iload hx hb dX5_goOn_52 (lv_at hl 0 rfl) ?_
      refine lv_aload_n hx hb dX5_goOn_54 rfl (lv_at hl 1 rfl) ?_
      refine gX5_9 C hd (rfl : kd 140 = 5) (q := 141) rfl dX5_goOn_55 (fun y5 => ?_)
      refine lv_iload hx hb dX5_goOn_58 (lv_at hl 0 rfl) ?_
      refine R_iald C hd y5 h dX5_goOn_60 (fun x6 h => ?_)
      refine lv_iload hx hb dX5_goOn_61 (lv_at hl 5 rfl) ?_
      refine lv_aload_n hx hb dX5_goOn_63 rfl (lv_at hl 2 rfl) ?_
      refine gX5_52 C hd kl1 (q := sr l1 7) rfl dX5_goOn_64 (fun y7 => ?_)
      refine lv_iload_n hx hb dX5_goOn_67 rfl (lv_at hl 4 rfl) ?_
      refine lv_bipush (v := 8) hx hb dX5_goOn_68 (by decide) ?_
      refine lv_imul hx hb dX5_goOn_70 ?_
      refine lv_iload hx hb dX5_goOn_71 (lv_at hl 6 rfl) ?_
      refine lv_iadd hx hb dX5_goOn_73 ?_
      refine R_iald C hd y7 h dX5_goOn_74 (fun x8 h => ?_)
      refine lv_iadd hx hb dX5_goOn_75 ?_
      refine R_mmin C hl.1 kmX5_55 (Nat.le_of_ble_eq_true rfl) (Nat.le_of_ble_eq_true rfl) (Nat.le_of_ble_eq_true rfl) (Nat.le_of_ble_eq_true rfl) dX5_goOn_76 ?_
      refine R_vl h (fun x9 h => ?_)
      refine R_iast C hd y4 h dX5_goOn_79 (fun S H locs hd h => ?_)
      exact sBX5_goOn_80 C hr hr16 kl1 hd (lv_sub hl [1, 2, 3, 4, 5, 6] rfl) h
def LX5_goOn_16 : Nat → Nat → Int32 → Int32 → Int32 → Int32 → St → Option St
  | 0 => fun _ _ _ _ _ _ => none
  | n + 1 => fun l1 l2 l3 l4 l5 S => KX5_goOn_16 (LX5_goOn_16 n) l1 l2 l3 l4 l5 S
theorem sLX5_goOn_16 (C : Cx p s m args meth c cX5_goOn 7 RX5 G) (hr : meth.sig.returnType = none) : ∀ (n : Nat) (l1 : Nat) (l2 : Int32) (l3 : Int32) (l4 : Int32) (l5 : Int32) (S : St) (res : St) (H : Heap) (locs : List Loc) (ls : Array Slot), kd l1 = 8 → Dy G S s H locs → lv_has ls 7 [(0, .ref (gR G 140)), (1, .ref (gR G l1)), (2, .int l2), (3, .int l3), (4, .int l4), (5, .int l5)] → LX5_goOn_16 n l1 l2 l3 l4 l5 S = some res → W p l e (rmL 3 0 0) s m args below meth c H locs 0 0 (MQ below (QV G res) args s 0 0 (Ab G)) (F0 m 16 ls []) := by
  intro n
  induction n with
  | zero => intro l1 l2 l3 l4 l5 S res H locs ls kl1 hd hl h; cases h
  | succ n ih =>
    intro l1 l2 l3 l4 l5 S res H locs ls kl1 hd hl h
    exact sKX5_goOn_16 C hr ih kl1 hd hl h
def fX5_goOn (a1 : Nat) (a2 : Int32) (a3 : Int32) (S : St) : Option St :=
  rd S 141 ((a2 * 8) + a3) fun x2 => (LX5_goOn_16 FU a1 a2 a3 x2 0 S)
set_option maxHeartbeats 4000000 in
set_option maxRecDepth 20000 in
theorem sfX5_goOn (C : Cx p s m args meth c cX5_goOn 7 RX5 G) (hr : meth.sig.returnType = none) {a1 : Nat} {a2 : Int32} {a3 : Int32} {S : St} {res : St} {H : Heap} {locs : List Loc} {ls : Array Slot} (k1 : kd a1 = 8) (hd : Dy G S s H locs) (hl : lv_has ls 7 [(0, .ref (gR G 140)), (1, .ref (gR G a1)), (2, .int a2), (3, .int a3)]) (h : fX5_goOn a1 a2 a3 S = some res) : W p l e (rmL 3 0 0) s m args below meth c H locs 0 0 (MQ below (QV G res) args s 0 0 (Ab G)) (F0 m 0 ls []) := by
  unfold fX5_goOn at h
  have hx := C.1.1
  have hb := C.1.2.1
  refine lv_aload_n hx hb dX5_goOn_0 rfl (lv_at hl 0 rfl) ?_
  refine gX5_9 C hd (rfl : kd 140 = 5) (q := 141) rfl dX5_goOn_1 (fun y1 => ?_)
  refine lv_iload_n hx hb dX5_goOn_4 rfl (lv_at hl 2 rfl) ?_
  refine lv_bipush (v := 8) hx hb dX5_goOn_5 (by decide) ?_
  refine lv_imul hx hb dX5_goOn_7 ?_
  refine lv_iload_n hx hb dX5_goOn_8 rfl (lv_at hl 3 rfl) ?_
  refine lv_iadd hx hb dX5_goOn_9 ?_
  refine R_iald C hd y1 h dX5_goOn_10 (fun x2 h => ?_)
  refine lv_istore (lv' := [(4, .int x2), (0, .ref (gR G 140)), (1, .ref (gR G a1)), (2, .int a2), (3, .int a3)]) hx hb dX5_goOn_11 hl (by decide) rfl (fun ls hl => ?_)
  refine lv_iconst (v := 0) hx hb dX5_goOn_13 (by decide) ?_
  refine lv_istore (lv' := [(5, .int 0), (4, .int x2), (0, .ref (gR G 140)), (1, .ref (gR G a1)), (2, .int a2), (3, .int a3)]) hx hb dX5_goOn_14 hl (by decide) rfl (fun ls hl => ?_)
  exact sLX5_goOn_16 C hr _ a1 a2 a3 x2 0 _ _ _ _ _ k1 hd (lv_sub hl [2, 3, 4, 5, 1, 0] rfl) h
set_option maxRecDepth 20000 in
theorem ccX5_goOn (l : Launch) (G : Gt) {a1 : Nat} {a2 : Int32} {a3 : Int32} {S : St} {res : St} (k1 : kd a1 = 8) (h : fX5_goOn a1 a2 a3 S = some res) : Met l yX5_goOn (wm yX5_goOn cX5_goOn 7 (none)) (rmL 3 0 0) (PcW G S [.ref (gR G 140), .ref (gR G a1), .int a2, .int a3]) (QV G res) 0 0 (Ab G) := by
  refine Met.ofW (cc := cX5_goOn) (maxL := 7) (ret := none) (by decide) rfl ?_
  intro p e s m args below meth c s₁ B hml hv
  obtain ⟨rfl, hK, hP⟩ := hv
  have C : Cx p s m _ meth c cX5_goOn 7 RX5 G := ⟨⟨B.exec, B.bytes, hml, findClass_of_methodNamed B.named, fun w hw => atoms_spec (ws := wm yX5_goOn cX5_goOn 7 (none)) B.pre w (List.mem_cons_of_mem _ hw)⟩, B.notSynchronized, hK⟩
  have hl := lv_entry ([.ref (gR G 140), .ref (gR G a1), .int a2, .int a3]) (n := 7) (Nat.le_of_ble_eq_true rfl)
  rw [lg_entry_eq]
  generalize (lg_sl ([.ref (gR G 140), .ref (gR G a1), .int a2, .int a3]) ++ List.replicate (7 - (lg_sl ([.ref (gR G 140), .ref (gR G a1), .int a2, .int a3])).length) Slot.unset).toArray = ls at hl ⊢
  exact sfX5_goOn C B.returns k1 ⟨hP, va_S.rf⟩ hl h
def KX5_tour_86 (r86 : Nat → Int32 → Int32 → Int32 → St → Option (Int32 × St)) (l1 : Nat) (l2 : Int32) (l3 : Int32) (l4 : Int32) (S : St) : Option (Int32 × St) :=
  (if (S l1 0) ≤ l4 then (if l3 < 1000000 then ri l3 S else ri ((-1)) S) else rd S 141 (((l2 - 1) * 8) + l4) fun x4 => rd S (sr l1 7) (l4 * 8) fun x6 => vl (if (x4 + x6) < l3 then x4 + x6 else l3) fun x7 => vl (l4 + 1) fun x8 => (r86 l1 l2 x7 x8 S))
set_option maxHeartbeats 4000000 in
set_option maxRecDepth 20000 in
theorem sKX5_tour_86 (C : Cx p s m args meth c cX5_tour 5 RX5 G) (hr : meth.sig.returnType = some .int) {r86 : Nat → Int32 → Int32 → Int32 → St → Option (Int32 × St)} (hr86 : ∀ (l1 : Nat) (l2 : Int32) (l3 : Int32) (l4 : Int32) (S : St) (res : (Int32 × St)) (H : Heap) (locs : List Loc) (ls : Array Slot), kd l1 = 8 → Dy G S s H locs → lv_has ls 5 [(0, .ref (gR G 140)), (1, .ref (gR G l1)), (2, .int l2), (3, .int l3), (4, .int l4)] → r86 l1 l2 l3 l4 S = some res → W p l e (rmL 4 0 0) s m args below meth c H locs 0 0 (MQ below (QI G res.1 res.2) args s 0 0 (Ab G)) (F0 m 86 ls [])) {l1 : Nat} {l2 : Int32} {l3 : Int32} {l4 : Int32} {S : St} {res : (Int32 × St)} {H : Heap} {locs : List Loc} {ls : Array Slot} (kl1 : kd l1 = 8) (hd : Dy G S s H locs) (hl : lv_has ls 5 [(0, .ref (gR G 140)), (1, .ref (gR G l1)), (2, .int l2), (3, .int l3), (4, .int l4)]) (h : KX5_tour_86 r86 l1 l2 l3 l4 S = some res) : W p l e (rmL 4 0 0) s m args below meth c H locs 0 0 (MQ below (QI G res.1 res.2) args s 0 0 (Ab G)) (F0 m 86 ls []) := by
  unfold KX5_tour_86 at h
  have hx := C.1.1
  have hb := C.1.2.1
  refine lv_iload hx hb dX5_tour_86 (lv_at hl 4 rfl) ?_
  refine lv_aload_n hx hb dX5_tour_88 rfl (lv_at hl 1 rfl) ?_
  refine gX5_15 C hd kl1 dX5_tour_89 ?_
  refine lv_icmp_ge (tgt := 131) hx hb dX5_tour_92 (by decide) (fun c1 => ?_) (fun c1 => ?_)
  · rw [if_pos c1] at h
    refine lv_iload_n hx hb dX5_tour_131 rfl (lv_at hl 3 rfl) ?_
    refine lv_ldc hx hb C.1.2.2.2.1 (C.1.2.2.2.2 _ kcX5_41) dX5_tour_132 ?_
    refine lv_icmp_lt (tgt := 141) hx hb dX5_tour_134 (by decide) (fun c2 => ?_) (fun c2 => ?_)
    · rw [if_pos c2] at h
      refine lv_iload_n hx hb dX5_tour_141 rfl (lv_at hl 3 rfl) ?_
      exact R_iret C hr hd h dX5_tour_142
    · rw [if_neg c2] at h
      refine lv_iconst (v := -1) hx hb dX5_tour_137 (by decide) ?_
      refine lv_goto (tgt := 142) hx hb dX5_tour_138 (by decide) ?_
      exact R_iret C hr hd h dX5_tour_142
  · rw [if_neg c1] at h
    refine lv_iload_n hx hb dX5_tour_95 rfl (lv_at hl 3 rfl) ?_
    refine lv_aload_n hx hb dX5_tour_96 rfl (lv_at hl 0 rfl) ?_
    refine gX5_9 C hd (rfl : kd 140 = 5) (q := 141) rfl dX5_tour_97 (fun y3 => ?_)
    refine lv_iload_n hx hb dX5_tour_100 rfl (lv_at hl 2 rfl) ?_
    refine lv_iconst (v := 1) hx hb dX5_tour_101 (by decide) ?_
    refine lv_isub hx hb dX5_tour_102 ?_
    refine lv_bipush (v := 8) hx hb dX5_tour_103 (by decide) ?_
    refine lv_imul hx hb dX5_tour_105 ?_
    refine lv_iload hx hb dX5_tour_106 (lv_at hl 4 rfl) ?_
    refine lv_iadd hx hb dX5_tour_108 ?_
    refine R_iald C hd y3 h dX5_tour_109 (fun x4 h => ?_)
    refine lv_aload_n hx hb dX5_tour_110 rfl (lv_at hl 1 rfl) ?_
    refine gX5_52 C hd kl1 (q := sr l1 7) rfl dX5_tour_111 (fun y5 => ?_)
    refine lv_iload hx hb dX5_tour_114 (lv_at hl 4 rfl) ?_
    refine lv_bipush (v := 8) hx hb dX5_tour_116 (by decide) ?_
    refine lv_imul hx hb dX5_tour_118 ?_
    refine R_iald C hd y5 h dX5_tour_119 (fun x6 h => ?_)
    refine lv_iadd hx hb dX5_tour_120 ?_
    refine R_mmin C hl.1 kmX5_55 (Nat.le_of_ble_eq_true rfl) (Nat.le_of_ble_eq_true rfl) (Nat.le_of_ble_eq_true rfl) (Nat.le_of_ble_eq_true rfl) dX5_tour_121 ?_
    refine R_vl h (fun x7 h => ?_)
    refine lv_istore_n (lv' := [(3, .int x7), (0, .ref (gR G 140)), (1, .ref (gR G l1)), (2, .int l2), (4, .int l4)]) hx hb dX5_tour_124 rfl hl (by decide) rfl (fun ls hl => ?_)
    refine R_vi h (fun x8 ex8 h => ?_)
    refine lv_iinc (v := x8) (lv' := [(4, .int x8), (3, .int x7), (0, .ref (gR G 140)), (1, .ref (gR G l1)), (2, .int l2)]) hx hb dX5_tour_125 hl (k := 4) rfl (by rw [ex8]; rfl) (by decide) rfl (fun ls hl => ?_)
    refine lv_goto (tgt := 86) hx hb dX5_tour_128 (by decide) ?_
    exact hr86 l1 l2 x7 x8 _ _ _ _ _ kl1 hd (lv_sub hl [2, 3, 4, 1, 0] rfl) h
def LX5_tour_86 : Nat → Nat → Int32 → Int32 → Int32 → St → Option (Int32 × St)
  | 0 => fun _ _ _ _ _ => none
  | n + 1 => fun l1 l2 l3 l4 S => KX5_tour_86 (LX5_tour_86 n) l1 l2 l3 l4 S
theorem sLX5_tour_86 (C : Cx p s m args meth c cX5_tour 5 RX5 G) (hr : meth.sig.returnType = some .int) : ∀ (n : Nat) (l1 : Nat) (l2 : Int32) (l3 : Int32) (l4 : Int32) (S : St) (res : (Int32 × St)) (H : Heap) (locs : List Loc) (ls : Array Slot), kd l1 = 8 → Dy G S s H locs → lv_has ls 5 [(0, .ref (gR G 140)), (1, .ref (gR G l1)), (2, .int l2), (3, .int l3), (4, .int l4)] → LX5_tour_86 n l1 l2 l3 l4 S = some res → W p l e (rmL 4 0 0) s m args below meth c H locs 0 0 (MQ below (QI G res.1 res.2) args s 0 0 (Ab G)) (F0 m 86 ls []) := by
  intro n
  induction n with
  | zero => intro l1 l2 l3 l4 S res H locs ls kl1 hd hl h; cases h
  | succ n ih =>
    intro l1 l2 l3 l4 S res H locs ls kl1 hd hl h
    exact sKX5_tour_86 C hr ih kl1 hd hl h
def BX5_tour_68 (r26 : Nat → Int32 → Int32 → St → Option (Int32 × St)) (r34 : Nat → Int32 → Int32 → Int32 → St → Option (Int32 × St)) (l1 : Nat) (l2 : Int32) (l3 : Int32) (l4 : Int32) (S : St) : Option (Int32 × St) :=
  vl (l4 + 1) fun x1 => (r34 l1 l2 l3 x1 S)
set_option maxHeartbeats 4000000 in
set_option maxRecDepth 20000 in
theorem sBX5_tour_68 (C : Cx p s m args meth c cX5_tour 5 RX5 G) (hr : meth.sig.returnType = some .int) {r26 : Nat → Int32 → Int32 → St → Option (Int32 × St)} {r34 : Nat → Int32 → Int32 → Int32 → St → Option (Int32 × St)} (hr26 : ∀ (l1 : Nat) (l2 : Int32) (l3 : Int32) (S : St) (res : (Int32 × St)) (H : Heap) (locs : List Loc) (ls : Array Slot), kd l1 = 8 → Dy G S s H locs → lv_has ls 5 [(0, .ref (gR G 140)), (1, .ref (gR G l1)), (2, .int l2), (3, .int l3)] → r26 l1 l2 l3 S = some res → W p l e (rmL 4 0 0) s m args below meth c H locs 0 0 (MQ below (QI G res.1 res.2) args s 0 0 (Ab G)) (F0 m 26 ls [])) (hr34 : ∀ (l1 : Nat) (l2 : Int32) (l3 : Int32) (l4 : Int32) (S : St) (res : (Int32 × St)) (H : Heap) (locs : List Loc) (ls : Array Slot), kd l1 = 8 → Dy G S s H locs → lv_has ls 5 [(0, .ref (gR G 140)), (1, .ref (gR G l1)), (2, .int l2), (3, .int l3), (4, .int l4)] → r34 l1 l2 l3 l4 S = some res → W p l e (rmL 4 0 0) s m args below meth c H locs 0 0 (MQ below (QI G res.1 res.2) args s 0 0 (Ab G)) (F0 m 34 ls [])) {l1 : Nat} {l2 : Int32} {l3 : Int32} {l4 : Int32} {S : St} {res : (Int32 × St)} {H : Heap} {locs : List Loc} {ls : Array Slot} (kl1 : kd l1 = 8) (hd : Dy G S s H locs) (hl : lv_has ls 5 [(0, .ref (gR G 140)), (1, .ref (gR G l1)), (2, .int l2), (3, .int l3), (4, .int l4)]) (h : BX5_tour_68 r26 r34 l1 l2 l3 l4 S = some res) : W p l e (rmL 4 0 0) s m args below meth c H locs 0 0 (MQ below (QI G res.1 res.2) args s 0 0 (Ab G)) (F0 m 68 ls []) := by
  unfold BX5_tour_68 at h
  have hx := C.1.1
  have hb := C.1.2.1
  refine R_vi h (fun x1 ex1 h => ?_)
  refine lv_iinc (v := x1) (lv' := [(4, .int x1), (0, .ref (gR G 140)), (1, .ref (gR G l1)), (2, .int l2), (3, .int l3)]) hx hb dX5_tour_68 hl (k := 4) rfl (by rw [ex1]; rfl) (by decide) rfl (fun ls hl => ?_)
  refine lv_goto (tgt := 34) hx hb dX5_tour_71 (by decide) ?_
  exact hr34 l1 l2 l3 x1 _ _ _ _ _ kl1 hd (lv_sub hl [1, 2, 3, 4, 0] rfl) h
def KX5_tour_34 (r26 : Nat → Int32 → Int32 → St → Option (Int32 × St)) (r34 : Nat → Int32 → Int32 → Int32 → St → Option (Int32 × St)) (l1 : Nat) (l2 : Int32) (l3 : Int32) (l4 : Int32) (S : St) : Option (Int32 × St) :=
  (if (S l1 0) ≤ l4 then vl (l3 + 2) fun x2 => (r26 l1 l2 x2 S) else rd S 141 ((l3 * 8) + l4) fun x4 => (if 1000000 ≤ x4 then (BX5_tour_68 r26 r34 l1 l2 l3 l4 S) else bv (fX5_goOn l1 l3 l4 S) fun S => (BX5_tour_68 r26 r34 l1 l2 l3 l4 S)))
set_option maxHeartbeats 4000000 in
set_option maxRecDepth 20000 in
theorem sKX5_tour_34 (C : Cx p s m args meth c cX5_tour 5 RX5 G) (hr : meth.sig.returnType = some .int) {r26 : Nat → Int32 → Int32 → St → Option (Int32 × St)} {r34 : Nat → Int32 → Int32 → Int32 → St → Option (Int32 × St)} (hr26 : ∀ (l1 : Nat) (l2 : Int32) (l3 : Int32) (S : St) (res : (Int32 × St)) (H : Heap) (locs : List Loc) (ls : Array Slot), kd l1 = 8 → Dy G S s H locs → lv_has ls 5 [(0, .ref (gR G 140)), (1, .ref (gR G l1)), (2, .int l2), (3, .int l3)] → r26 l1 l2 l3 S = some res → W p l e (rmL 4 0 0) s m args below meth c H locs 0 0 (MQ below (QI G res.1 res.2) args s 0 0 (Ab G)) (F0 m 26 ls [])) (hr34 : ∀ (l1 : Nat) (l2 : Int32) (l3 : Int32) (l4 : Int32) (S : St) (res : (Int32 × St)) (H : Heap) (locs : List Loc) (ls : Array Slot), kd l1 = 8 → Dy G S s H locs → lv_has ls 5 [(0, .ref (gR G 140)), (1, .ref (gR G l1)), (2, .int l2), (3, .int l3), (4, .int l4)] → r34 l1 l2 l3 l4 S = some res → W p l e (rmL 4 0 0) s m args below meth c H locs 0 0 (MQ below (QI G res.1 res.2) args s 0 0 (Ab G)) (F0 m 34 ls [])) {l1 : Nat} {l2 : Int32} {l3 : Int32} {l4 : Int32} {S : St} {res : (Int32 × St)} {H : Heap} {locs : List Loc} {ls : Array Slot} (kl1 : kd l1 = 8) (hd : Dy G S s H locs) (hl : lv_has ls 5 [(0, .ref (gR G 140)), (1, .ref (gR G l1)), (2, .int l2), (3, .int l3), (4, .int l4)]) (h : KX5_tour_34 r26 r34 l1 l2 l3 l4 S = some res) : W p l e (rmL 4 0 0) s m args below meth c H locs 0 0 (MQ below (QI G res.1 res.2) args s 0 0 (Ab G)) (F0 m 34 ls []) := by
  unfold KX5_tour_34 at h
  have hx := C.1.1
  have hb := C.1.2.1
  refine lv_iload hx hb dX5_tour_34 (lv_at hl 4 rfl) ?_
  refine lv_aload_n hx hb dX5_tour_36 rfl (lv_at hl 1 rfl) ?_
  refine gX5_15 C hd kl1 dX5_tour_37 ?_
  refine lv_icmp_ge (tgt := 74) hx hb dX5_tour_40 (by decide) (fun c1 => ?_) (fun c1 => ?_)
  · rw [if_pos c1] at h
    refine R_vi h (fun x2 ex2 h => ?_)
    refine lv_iinc (v := x2) (lv' := [(3, .int x2), (0, .ref (gR G 140)), (1, .ref (gR G l1)), (2, .int l2), (4, .int l4)]) hx hb dX5_tour_74 hl (k := 3) rfl (by rw [ex2]; rfl) (by decide) rfl (fun ls hl => ?_)
    refine lv_goto (tgt := 26) hx hb dX5_tour_77 (by decide) ?_
    exact hr26 l1 l2 x2 _ _ _ _ _ kl1 hd (lv_sub hl [1, 2, 3, 0] rfl) h
  · rw [if_neg c1] at h
    refine lv_aload_n hx hb dX5_tour_43 rfl (lv_at hl 0 rfl) ?_
    refine gX5_9 C hd (rfl : kd 140 = 5) (q := 141) rfl dX5_tour_44 (fun y3 => ?_)
    refine lv_iload_n hx hb dX5_tour_47 rfl (lv_at hl 3 rfl) ?_
    refine lv_bipush (v := 8) hx hb dX5_tour_48 (by decide) ?_
    refine lv_imul hx hb dX5_tour_50 ?_
    refine lv_iload hx hb dX5_tour_51 (lv_at hl 4 rfl) ?_
    refine lv_iadd hx hb dX5_tour_53 ?_
    refine R_iald C hd y3 h dX5_tour_54 (fun x4 h => ?_)
    refine lv_ldc hx hb C.1.2.2.2.1 (C.1.2.2.2.2 _ kcX5_41) dX5_tour_55 ?_
    refine lv_icmp_ge (tgt := 68) hx hb dX5_tour_57 (by decide) (fun c5 => ?_) (fun c5 => ?_)
    · rw [if_pos c5] at h
      exact sBX5_tour_68 C hr hr26 hr34 kl1 hd (lv_sub hl [0, 1, 2, 3, 4] rfl) h
    · rw [if_neg c5] at h
      refine lv_aload_n hx hb dX5_tour_60 rfl (lv_at hl 0 rfl) ?_
      refine lv_aload_n hx hb dX5_tour_61 rfl (lv_at hl 1 rfl) ?_
      refine lv_iload_n hx hb dX5_tour_62 rfl (lv_at hl 3 rfl) ?_
      refine lv_iload hx hb dX5_tour_63 (lv_at hl 4 rfl) ?_
      obtain ⟨S1, hc, h⟩ := bv_some h
      refine R_cVv C hd (ccX5_goOn l G kl1 hc) kX5_48 rfl (by decide) (rfl : kd 140 = 5) hl.1 ⟨by decide, by decide⟩ rfl rfl (Nat.le_of_ble_eq_true rfl) dX5_tour_65 ⟨Nat.zero_le _, Nat.zero_le _⟩ (fun H locs hd => ?_)
      generalize S1 = S at h hd
      exact sBX5_tour_68 C hr hr26 hr34 kl1 hd (lv_sub hl [0, 1, 2, 3, 4] rfl) h
def LX5_tour_34 (r26 : Nat → Int32 → Int32 → St → Option (Int32 × St)) : Nat → Nat → Int32 → Int32 → Int32 → St → Option (Int32 × St)
  | 0 => fun _ _ _ _ _ => none
  | n + 1 => fun l1 l2 l3 l4 S => KX5_tour_34 r26 (LX5_tour_34 r26 n) l1 l2 l3 l4 S
theorem sLX5_tour_34 (C : Cx p s m args meth c cX5_tour 5 RX5 G) (hr : meth.sig.returnType = some .int) {r26 : Nat → Int32 → Int32 → St → Option (Int32 × St)} (hr26 : ∀ (l1 : Nat) (l2 : Int32) (l3 : Int32) (S : St) (res : (Int32 × St)) (H : Heap) (locs : List Loc) (ls : Array Slot), kd l1 = 8 → Dy G S s H locs → lv_has ls 5 [(0, .ref (gR G 140)), (1, .ref (gR G l1)), (2, .int l2), (3, .int l3)] → r26 l1 l2 l3 S = some res → W p l e (rmL 4 0 0) s m args below meth c H locs 0 0 (MQ below (QI G res.1 res.2) args s 0 0 (Ab G)) (F0 m 26 ls [])) : ∀ (n : Nat) (l1 : Nat) (l2 : Int32) (l3 : Int32) (l4 : Int32) (S : St) (res : (Int32 × St)) (H : Heap) (locs : List Loc) (ls : Array Slot), kd l1 = 8 → Dy G S s H locs → lv_has ls 5 [(0, .ref (gR G 140)), (1, .ref (gR G l1)), (2, .int l2), (3, .int l3), (4, .int l4)] → LX5_tour_34 r26 n l1 l2 l3 l4 S = some res → W p l e (rmL 4 0 0) s m args below meth c H locs 0 0 (MQ below (QI G res.1 res.2) args s 0 0 (Ab G)) (F0 m 34 ls []) := by
  intro n
  induction n with
  | zero => intro l1 l2 l3 l4 S res H locs ls kl1 hd hl h; cases h
  | succ n ih =>
    intro l1 l2 l3 l4 S res H locs ls kl1 hd hl h
    exact sKX5_tour_34 C hr hr26 ih kl1 hd hl h
def KX5_tour_26 (r26 : Nat → Int32 → Int32 → St → Option (Int32 × St)) (l1 : Nat) (l2 : Int32) (l3 : Int32) (S : St) : Option (Int32 × St) :=
  (if l2 ≤ l3 then (LX5_tour_86 FU l1 l2 1000000 0 S) else (LX5_tour_34 r26 FU l1 l2 l3 0 S))
set_option maxHeartbeats 4000000 in
set_option maxRecDepth 20000 in
theorem sKX5_tour_26 (C : Cx p s m args meth c cX5_tour 5 RX5 G) (hr : meth.sig.returnType = some .int) {r26 : Nat → Int32 → Int32 → St → Option (Int32 × St)} (hr26 : ∀ (l1 : Nat) (l2 : Int32) (l3 : Int32) (S : St) (res : (Int32 × St)) (H : Heap) (locs : List Loc) (ls : Array Slot), kd l1 = 8 → Dy G S s H locs → lv_has ls 5 [(0, .ref (gR G 140)), (1, .ref (gR G l1)), (2, .int l2), (3, .int l3)] → r26 l1 l2 l3 S = some res → W p l e (rmL 4 0 0) s m args below meth c H locs 0 0 (MQ below (QI G res.1 res.2) args s 0 0 (Ab G)) (F0 m 26 ls [])) {l1 : Nat} {l2 : Int32} {l3 : Int32} {S : St} {res : (Int32 × St)} {H : Heap} {locs : List Loc} {ls : Array Slot} (kl1 : kd l1 = 8) (hd : Dy G S s H locs) (hl : lv_has ls 5 [(0, .ref (gR G 140)), (1, .ref (gR G l1)), (2, .int l2), (3, .int l3)]) (h : KX5_tour_26 r26 l1 l2 l3 S = some res) : W p l e (rmL 4 0 0) s m args below meth c H locs 0 0 (MQ below (QI G res.1 res.2) args s 0 0 (Ab G)) (F0 m 26 ls []) := by
  unfold KX5_tour_26 at h
  have hx := C.1.1
  have hb := C.1.2.1
  refine lv_iload_n hx hb dX5_tour_26 rfl (lv_at hl 3 rfl) ?_
  refine lv_iload_n hx hb dX5_tour_27 rfl (lv_at hl 2 rfl) ?_
  refine lv_icmp_ge (tgt := 80) hx hb dX5_tour_28 (by decide) (fun c1 => ?_) (fun c1 => ?_)
  · rw [if_pos c1] at h
    refine lv_ldc hx hb C.1.2.2.2.1 (C.1.2.2.2.2 _ kcX5_41) dX5_tour_80 ?_
    refine lv_istore_n (lv' := [(3, .int 1000000), (0, .ref (gR G 140)), (1, .ref (gR G l1)), (2, .int l2)]) hx hb dX5_tour_82 rfl hl (by decide) rfl (fun ls hl => ?_)
    refine lv_iconst (v := 0) hx hb dX5_tour_83 (by decide) ?_
    refine lv_istore (lv' := [(4, .int 0), (3, .int 1000000), (0, .ref (gR G 140)), (1, .ref (gR G l1)), (2, .int l2)]) hx hb dX5_tour_84 hl (by decide) rfl (fun ls hl => ?_)
    exact sLX5_tour_86 C hr _ l1 l2 1000000 0 _ _ _ _ _ kl1 hd (lv_sub hl [2, 3, 4, 1, 0] rfl) h
  · rw [if_neg c1] at h
    refine lv_iconst (v := 0) hx hb dX5_tour_31 (by decide) ?_
    refine lv_istore (lv' := [(4, .int 0), (0, .ref (gR G 140)), (1, .ref (gR G l1)), (2, .int l2), (3, .int l3)]) hx hb dX5_tour_32 hl (by decide) rfl (fun ls hl => ?_)
    exact sLX5_tour_34 C hr hr26 _ l1 l2 l3 0 _ _ _ _ _ kl1 hd (lv_sub hl [1, 2, 3, 4, 0] rfl) h
def LX5_tour_26 : Nat → Nat → Int32 → Int32 → St → Option (Int32 × St)
  | 0 => fun _ _ _ _ => none
  | n + 1 => fun l1 l2 l3 S => KX5_tour_26 (LX5_tour_26 n) l1 l2 l3 S
theorem sLX5_tour_26 (C : Cx p s m args meth c cX5_tour 5 RX5 G) (hr : meth.sig.returnType = some .int) : ∀ (n : Nat) (l1 : Nat) (l2 : Int32) (l3 : Int32) (S : St) (res : (Int32 × St)) (H : Heap) (locs : List Loc) (ls : Array Slot), kd l1 = 8 → Dy G S s H locs → lv_has ls 5 [(0, .ref (gR G 140)), (1, .ref (gR G l1)), (2, .int l2), (3, .int l3)] → LX5_tour_26 n l1 l2 l3 S = some res → W p l e (rmL 4 0 0) s m args below meth c H locs 0 0 (MQ below (QI G res.1 res.2) args s 0 0 (Ab G)) (F0 m 26 ls []) := by
  intro n
  induction n with
  | zero => intro l1 l2 l3 S res H locs ls kl1 hd hl h; cases h
  | succ n ih =>
    intro l1 l2 l3 S res H locs ls kl1 hd hl h
    exact sKX5_tour_26 C hr ih kl1 hd hl h
def fX5_tour (a1 : Nat) (S : St) : Option (Int32 × St) :=
  vl ((1 : Int32) <<< ((S a1 0) &&& 31)) fun x1 => bv (fJ7_fill_53178 141 1000000 S) fun S => wr S 141 8 0 fun S => (LX5_tour_26 FU a1 x1 1 S)
set_option maxHeartbeats 4000000 in
set_option maxRecDepth 20000 in
theorem sfX5_tour (C : Cx p s m args meth c cX5_tour 5 RX5 G) (hr : meth.sig.returnType = some .int) {a1 : Nat} {S : St} {res : (Int32 × St)} {H : Heap} {locs : List Loc} {ls : Array Slot} (k1 : kd a1 = 8) (hd : Dy G S s H locs) (hl : lv_has ls 5 [(0, .ref (gR G 140)), (1, .ref (gR G a1))]) (h : fX5_tour a1 S = some res) : W p l e (rmL 4 0 0) s m args below meth c H locs 0 0 (MQ below (QI G res.1 res.2) args s 0 0 (Ab G)) (F0 m 0 ls []) := by
  unfold fX5_tour at h
  have hx := C.1.1
  have hb := C.1.2.1
  refine lv_iconst (v := 1) hx hb dX5_tour_0 (by decide) ?_
  refine lv_aload_n hx hb dX5_tour_1 rfl (lv_at hl 1 rfl) ?_
  refine gX5_15 C hd k1 dX5_tour_2 ?_
  refine lv_ishl hx hb dX5_tour_5 ?_
  refine R_vl h (fun x1 h => ?_)
  refine lv_istore_n (lv' := [(2, .int x1), (0, .ref (gR G 140)), (1, .ref (gR G a1))]) hx hb dX5_tour_6 rfl hl (by decide) rfl (fun ls hl => ?_)
  refine lv_aload_n hx hb dX5_tour_7 rfl (lv_at hl 1 rfl) ?_
  refine gX5_9 C hd (rfl : kd 140 = 5) (q := 141) rfl dX5_tour_8 (fun y2 => ?_)
  refine lv_ldc hx hb C.1.2.2.2.1 (C.1.2.2.2.2 _ kcX5_41) dX5_tour_11 ?_
  obtain ⟨S1, hc, h⟩ := bv_some h
  refine R_cSv C hd (ccJ7_fill_53178 l G y2 hc) kX5_42  hl.1 ⟨by decide, by decide⟩ rfl rfl (Nat.le_of_ble_eq_true rfl) dX5_tour_13 ⟨Nat.zero_le _, Nat.zero_le _⟩ (fun H locs hd => ?_)
  generalize S1 = S at h hd
  refine lv_aload_n hx hb dX5_tour_16 rfl (lv_at hl 1 rfl) ?_
  refine gX5_9 C hd (rfl : kd 140 = 5) (q := 141) rfl dX5_tour_17 (fun y3 => ?_)
  refine lv_bipush (v := 8) hx hb dX5_tour_20 (by decide) ?_
  refine lv_iconst (v := 0) hx hb dX5_tour_22 (by decide) ?_
  refine R_iast C hd y3 h dX5_tour_23 (fun S H locs hd h => ?_)
  refine lv_iconst (v := 1) hx hb dX5_tour_24 (by decide) ?_
  refine lv_istore_n (lv' := [(3, .int 1), (2, .int x1), (0, .ref (gR G 140)), (1, .ref (gR G a1))]) hx hb dX5_tour_25 rfl hl (by decide) rfl (fun ls hl => ?_)
  exact sLX5_tour_26 C hr _ a1 x1 1 _ _ _ _ _ k1 hd (lv_sub hl [2, 3, 1, 0] rfl) h
set_option maxRecDepth 20000 in
theorem ccX5_tour (l : Launch) (G : Gt) {a1 : Nat} {S : St} {res : (Int32 × St)} (k1 : kd a1 = 8) (h : fX5_tour a1 S = some res) : Met l yX5_tour (wm yX5_tour cX5_tour 5 (some .int)) (rmL 4 0 0) (PcW G S [.ref (gR G 140), .ref (gR G a1)]) (QI G res.1 res.2) 0 0 (Ab G) := by
  refine Met.ofW (cc := cX5_tour) (maxL := 5) (ret := (some .int)) (by decide) rfl ?_
  intro p e s m args below meth c s₁ B hml hv
  obtain ⟨rfl, hK, hP⟩ := hv
  have C : Cx p s m _ meth c cX5_tour 5 RX5 G := ⟨⟨B.exec, B.bytes, hml, findClass_of_methodNamed B.named, fun w hw => atoms_spec (ws := wm yX5_tour cX5_tour 5 (some .int)) B.pre w (List.mem_cons_of_mem _ hw)⟩, B.notSynchronized, hK⟩
  have hl := lv_entry ([.ref (gR G 140), .ref (gR G a1)]) (n := 5) (Nat.le_of_ble_eq_true rfl)
  rw [lg_entry_eq]
  generalize (lg_sl ([.ref (gR G 140), .ref (gR G a1)]) ++ List.replicate (5 - (lg_sl ([.ref (gR G 140), .ref (gR G a1)])).length) Slot.unset).toArray = ls at hl ⊢
  exact sfX5_tour C B.returns k1 ⟨hP, va_S.rf⟩ hl h
def BX5_meeting_78 (r10 : Nat → Nat → Int32 → Int32 → Int32 → Int32 → St → Option (Int32 × St)) (l1 : Nat) (l2 : Nat) (l3 : Int32) (l4 : Int32) (l5 : Int32) (l6 : Int32) (S : St) : Option (Int32 × St) :=
  vl (l6 + 1) fun x1 => (r10 l1 l2 l3 l4 l5 x1 S)
set_option maxHeartbeats 4000000 in
set_option maxRecDepth 20000 in
theorem sBX5_meeting_78 (C : Cx p s m args meth c cX5_meeting 9 RX5 G) (hr : meth.sig.returnType = some .int) {r10 : Nat → Nat → Int32 → Int32 → Int32 → Int32 → St → Option (Int32 × St)} (hr10 : ∀ (l1 : Nat) (l2 : Nat) (l3 : Int32) (l4 : Int32) (l5 : Int32) (l6 : Int32) (S : St) (res : (Int32 × St)) (H : Heap) (locs : List Loc) (ls : Array Slot), kd l1 = 8 → kd l2 = 20 → Dy G S s H locs → lv_has ls 9 [(0, .ref (gR G 140)), (1, .ref (gR G l1)), (2, .ref (gR G l2)), (3, .int l3), (4, .int l4), (5, .int l5), (6, .int l6)] → r10 l1 l2 l3 l4 l5 l6 S = some res → W p l e (rmL 4 0 0) s m args below meth c H locs 0 0 (MQ below (QI G res.1 res.2) args s 0 0 (Ab G)) (F0 m 10 ls [])) {l1 : Nat} {l2 : Nat} {l3 : Int32} {l4 : Int32} {l5 : Int32} {l6 : Int32} {S : St} {res : (Int32 × St)} {H : Heap} {locs : List Loc} {ls : Array Slot} (kl1 : kd l1 = 8) (kl2 : kd l2 = 20) (hd : Dy G S s H locs) (hl : lv_has ls 9 [(0, .ref (gR G 140)), (1, .ref (gR G l1)), (2, .ref (gR G l2)), (3, .int l3), (4, .int l4), (5, .int l5), (6, .int l6)]) (h : BX5_meeting_78 r10 l1 l2 l3 l4 l5 l6 S = some res) : W p l e (rmL 4 0 0) s m args below meth c H locs 0 0 (MQ below (QI G res.1 res.2) args s 0 0 (Ab G)) (F0 m 78 ls []) := by
  unfold BX5_meeting_78 at h
  have hx := C.1.1
  have hb := C.1.2.1
  refine R_vi h (fun x1 ex1 h => ?_)
  refine lv_iinc (v := x1) (lv' := [(6, .int x1), (0, .ref (gR G 140)), (1, .ref (gR G l1)), (2, .ref (gR G l2)), (3, .int l3), (4, .int l4), (5, .int l5)]) hx hb dX5_meeting_78 hl (k := 6) rfl (by rw [ex1]; rfl) (by decide) rfl (fun ls hl => ?_)
  refine lv_goto (tgt := 10) hx hb dX5_meeting_81 (by decide) ?_
  exact hr10 l1 l2 l3 l4 l5 x1 _ _ _ _ _ kl1 kl2 hd (lv_sub hl [1, 2, 3, 4, 5, 6, 0] rfl) h
def KX5_meeting_25 (r10 : Nat → Nat → Int32 → Int32 → Int32 → Int32 → St → Option (Int32 × St)) (r25 : Nat → Nat → Int32 → Int32 → Int32 → Int32 → Int32 → Int32 → St → Option (Int32 × St)) (l1 : Nat) (l2 : Nat) (l3 : Int32) (l4 : Int32) (l5 : Int32) (l6 : Int32) (l7 : Int32) (l8 : Int32) (S : St) : Option (Int32 × St) :=
  (if (S l1 2) ≤ l8 then (if l4 ≤ l7 then (BX5_meeting_78 r10 l1 l2 l3 l4 l5 l6 S) else (BX5_meeting_78 r10 l1 l2 l3 l7 l6 l6 S)) else bd (fX8_placeOf l1 l2 l8 S) fun x4 S => rd S (sr l1 7) ((x4 * 8) + l6) fun x5 => vl (l7 + x5) fun x6 => vl (l8 + 1) fun x7 => (r25 l1 l2 l3 l4 l5 l6 x6 x7 S))
set_option maxHeartbeats 4000000 in
set_option maxRecDepth 20000 in
theorem sKX5_meeting_25 (C : Cx p s m args meth c cX5_meeting 9 RX5 G) (hr : meth.sig.returnType = some .int) {r10 : Nat → Nat → Int32 → Int32 → Int32 → Int32 → St → Option (Int32 × St)} {r25 : Nat → Nat → Int32 → Int32 → Int32 → Int32 → Int32 → Int32 → St → Option (Int32 × St)} (hr10 : ∀ (l1 : Nat) (l2 : Nat) (l3 : Int32) (l4 : Int32) (l5 : Int32) (l6 : Int32) (S : St) (res : (Int32 × St)) (H : Heap) (locs : List Loc) (ls : Array Slot), kd l1 = 8 → kd l2 = 20 → Dy G S s H locs → lv_has ls 9 [(0, .ref (gR G 140)), (1, .ref (gR G l1)), (2, .ref (gR G l2)), (3, .int l3), (4, .int l4), (5, .int l5), (6, .int l6)] → r10 l1 l2 l3 l4 l5 l6 S = some res → W p l e (rmL 4 0 0) s m args below meth c H locs 0 0 (MQ below (QI G res.1 res.2) args s 0 0 (Ab G)) (F0 m 10 ls [])) (hr25 : ∀ (l1 : Nat) (l2 : Nat) (l3 : Int32) (l4 : Int32) (l5 : Int32) (l6 : Int32) (l7 : Int32) (l8 : Int32) (S : St) (res : (Int32 × St)) (H : Heap) (locs : List Loc) (ls : Array Slot), kd l1 = 8 → kd l2 = 20 → Dy G S s H locs → lv_has ls 9 [(0, .ref (gR G 140)), (1, .ref (gR G l1)), (2, .ref (gR G l2)), (3, .int l3), (4, .int l4), (5, .int l5), (6, .int l6), (7, .int l7), (8, .int l8)] → r25 l1 l2 l3 l4 l5 l6 l7 l8 S = some res → W p l e (rmL 4 0 0) s m args below meth c H locs 0 0 (MQ below (QI G res.1 res.2) args s 0 0 (Ab G)) (F0 m 25 ls [])) {l1 : Nat} {l2 : Nat} {l3 : Int32} {l4 : Int32} {l5 : Int32} {l6 : Int32} {l7 : Int32} {l8 : Int32} {S : St} {res : (Int32 × St)} {H : Heap} {locs : List Loc} {ls : Array Slot} (kl1 : kd l1 = 8) (kl2 : kd l2 = 20) (hd : Dy G S s H locs) (hl : lv_has ls 9 [(0, .ref (gR G 140)), (1, .ref (gR G l1)), (2, .ref (gR G l2)), (3, .int l3), (4, .int l4), (5, .int l5), (6, .int l6), (7, .int l7), (8, .int l8)]) (h : KX5_meeting_25 r10 r25 l1 l2 l3 l4 l5 l6 l7 l8 S = some res) : W p l e (rmL 4 0 0) s m args below meth c H locs 0 0 (MQ below (QI G res.1 res.2) args s 0 0 (Ab G)) (F0 m 25 ls []) := by
  unfold KX5_meeting_25 at h
  have hx := C.1.1
  have hb := C.1.2.1
  refine lv_iload hx hb dX5_meeting_25 (lv_at hl 8 rfl) ?_
  refine lv_aload_n hx hb dX5_meeting_27 rfl (lv_at hl 1 rfl) ?_
  refine gX5_58 C hd kl1 dX5_meeting_28 ?_
  refine lv_icmp_ge (tgt := 63) hx hb dX5_meeting_31 (by decide) (fun c1 => ?_) (fun c1 => ?_)
  · rw [if_pos c1] at h
    refine lv_iload hx hb dX5_meeting_63 (lv_at hl 7 rfl) ?_
    refine lv_iload hx hb dX5_meeting_65 (lv_at hl 4 rfl) ?_
    refine lv_icmp_ge (tgt := 78) hx hb dX5_meeting_67 (by decide) (fun c2 => ?_) (fun c2 => ?_)
    · rw [if_pos c2] at h
      exact sBX5_meeting_78 C hr hr10 kl1 kl2 hd (lv_sub hl [0, 1, 2, 3, 4, 5, 6] rfl) h
    · rw [if_neg c2] at h
      refine lv_iload hx hb dX5_meeting_70 (lv_at hl 7 rfl) ?_
      refine lv_istore (lv' := [(4, .int l7), (0, .ref (gR G 140)), (1, .ref (gR G l1)), (2, .ref (gR G l2)), (3, .int l3), (5, .int l5), (6, .int l6), (7, .int l7), (8, .int l8)]) hx hb dX5_meeting_72 hl (by decide) rfl (fun ls hl => ?_)
      refine lv_iload hx hb dX5_meeting_74 (lv_at hl 6 rfl) ?_
      refine lv_istore (lv' := [(5, .int l6), (4, .int l7), (0, .ref (gR G 140)), (1, .ref (gR G l1)), (2, .ref (gR G l2)), (3, .int l3), (6, .int l6), (7, .int l7), (8, .int l8)]) hx hb dX5_meeting_76 hl (by decide) rfl (fun ls hl => ?_)
      exact sBX5_meeting_78 C hr hr10 kl1 kl2 hd (lv_sub hl [2, 3, 4, 5, 1, 0, 6] rfl) h
  · rw [if_neg c1] at h
    refine lv_iload hx hb dX5_meeting_34 (lv_at hl 7 rfl) ?_
    refine lv_aload_n hx hb dX5_meeting_36 rfl (lv_at hl 1 rfl) ?_
    refine gX5_52 C hd kl1 (q := sr l1 7) rfl dX5_meeting_37 (fun y3 => ?_)
    refine lv_aload_n hx hb dX5_meeting_40 rfl (lv_at hl 1 rfl) ?_
    refine lv_aload_n hx hb dX5_meeting_41 rfl (lv_at hl 2 rfl) ?_
    refine lv_iload hx hb dX5_meeting_42 (lv_at hl 8 rfl) ?_
    obtain ⟨x4, S1, hc, h⟩ := bd_some h
    refine R_cVi C hd (ccX8_placeOf l G kl1 kl2 hc) kX5_61 rfl (by decide) kl1 hl.1 ⟨by decide, by decide⟩ rfl rfl (Nat.le_of_ble_eq_true rfl) dX5_meeting_44 ⟨Nat.zero_le _, Nat.zero_le _⟩ (fun H locs hd => ?_)
    generalize S1 = S at h hd
    refine lv_bipush (v := 8) hx hb dX5_meeting_47 (by decide) ?_
    refine lv_imul hx hb dX5_meeting_49 ?_
    refine lv_iload hx hb dX5_meeting_50 (lv_at hl 6 rfl) ?_
    refine lv_iadd hx hb dX5_meeting_52 ?_
    refine R_iald C hd y3 h dX5_meeting_53 (fun x5 h => ?_)
    refine lv_iadd hx hb dX5_meeting_54 ?_
    refine R_vl h (fun x6 h => ?_)
    refine lv_istore (lv' := [(7, .int x6), (0, .ref (gR G 140)), (1, .ref (gR G l1)), (2, .ref (gR G l2)), (3, .int l3), (4, .int l4), (5, .int l5), (6, .int l6), (8, .int l8)]) hx hb dX5_meeting_55 hl (by decide) rfl (fun ls hl => ?_)
    refine R_vi h (fun x7 ex7 h => ?_)
    refine lv_iinc (v := x7) (lv' := [(8, .int x7), (7, .int x6), (0, .ref (gR G 140)), (1, .ref (gR G l1)), (2, .ref (gR G l2)), (3, .int l3), (4, .int l4), (5, .int l5), (6, .int l6)]) hx hb dX5_meeting_57 hl (k := 8) rfl (by rw [ex7]; rfl) (by decide) rfl (fun ls hl => ?_)
    refine lv_goto (tgt := 25) hx hb dX5_meeting_60 (by decide) ?_
    exact hr25 l1 l2 l3 l4 l5 l6 x6 x7 _ _ _ _ _ kl1 kl2 hd (lv_sub hl [2, 3, 4, 5, 6, 7, 8, 1, 0] rfl) h
def LX5_meeting_25 (r10 : Nat → Nat → Int32 → Int32 → Int32 → Int32 → St → Option (Int32 × St)) : Nat → Nat → Nat → Int32 → Int32 → Int32 → Int32 → Int32 → Int32 → St → Option (Int32 × St)
  | 0 => fun _ _ _ _ _ _ _ _ _ => none
  | n + 1 => fun l1 l2 l3 l4 l5 l6 l7 l8 S => KX5_meeting_25 r10 (LX5_meeting_25 r10 n) l1 l2 l3 l4 l5 l6 l7 l8 S
theorem sLX5_meeting_25 (C : Cx p s m args meth c cX5_meeting 9 RX5 G) (hr : meth.sig.returnType = some .int) {r10 : Nat → Nat → Int32 → Int32 → Int32 → Int32 → St → Option (Int32 × St)} (hr10 : ∀ (l1 : Nat) (l2 : Nat) (l3 : Int32) (l4 : Int32) (l5 : Int32) (l6 : Int32) (S : St) (res : (Int32 × St)) (H : Heap) (locs : List Loc) (ls : Array Slot), kd l1 = 8 → kd l2 = 20 → Dy G S s H locs → lv_has ls 9 [(0, .ref (gR G 140)), (1, .ref (gR G l1)), (2, .ref (gR G l2)), (3, .int l3), (4, .int l4), (5, .int l5), (6, .int l6)] → r10 l1 l2 l3 l4 l5 l6 S = some res → W p l e (rmL 4 0 0) s m args below meth c H locs 0 0 (MQ below (QI G res.1 res.2) args s 0 0 (Ab G)) (F0 m 10 ls [])) : ∀ (n : Nat) (l1 : Nat) (l2 : Nat) (l3 : Int32) (l4 : Int32) (l5 : Int32) (l6 : Int32) (l7 : Int32) (l8 : Int32) (S : St) (res : (Int32 × St)) (H : Heap) (locs : List Loc) (ls : Array Slot), kd l1 = 8 → kd l2 = 20 → Dy G S s H locs → lv_has ls 9 [(0, .ref (gR G 140)), (1, .ref (gR G l1)), (2, .ref (gR G l2)), (3, .int l3), (4, .int l4), (5, .int l5), (6, .int l6), (7, .int l7), (8, .int l8)] → LX5_meeting_25 r10 n l1 l2 l3 l4 l5 l6 l7 l8 S = some res → W p l e (rmL 4 0 0) s m args below meth c H locs 0 0 (MQ below (QI G res.1 res.2) args s 0 0 (Ab G)) (F0 m 25 ls []) := by
  intro n
  induction n with
  | zero => intro l1 l2 l3 l4 l5 l6 l7 l8 S res H locs ls kl1 kl2 hd hl h; cases h
  | succ n ih =>
    intro l1 l2 l3 l4 l5 l6 l7 l8 S res H locs ls kl1 kl2 hd hl h
    exact sKX5_meeting_25 C hr hr10 ih kl1 kl2 hd hl h
def KX5_meeting_10 (r10 : Nat → Nat → Int32 → Int32 → Int32 → Int32 → St → Option (Int32 × St)) (l1 : Nat) (l2 : Nat) (l3 : Int32) (l4 : Int32) (l5 : Int32) (l6 : Int32) (S : St) : Option (Int32 × St) :=
  (if (S l1 0) ≤ l6 then (if l3 = 0 then (if l5 = (-1) then ri l5 S else ri l4 S) else ri l5 S) else (LX5_meeting_25 r10 FU l1 l2 l3 l4 l5 l6 0 0 S))
set_option maxHeartbeats 4000000 in
set_option maxRecDepth 20000 in
theorem sKX5_meeting_10 (C : Cx p s m args meth c cX5_meeting 9 RX5 G) (hr : meth.sig.returnType = some .int) {r10 : Nat → Nat → Int32 → Int32 → Int32 → Int32 → St → Option (Int32 × St)} (hr10 : ∀ (l1 : Nat) (l2 : Nat) (l3 : Int32) (l4 : Int32) (l5 : Int32) (l6 : Int32) (S : St) (res : (Int32 × St)) (H : Heap) (locs : List Loc) (ls : Array Slot), kd l1 = 8 → kd l2 = 20 → Dy G S s H locs → lv_has ls 9 [(0, .ref (gR G 140)), (1, .ref (gR G l1)), (2, .ref (gR G l2)), (3, .int l3), (4, .int l4), (5, .int l5), (6, .int l6)] → r10 l1 l2 l3 l4 l5 l6 S = some res → W p l e (rmL 4 0 0) s m args below meth c H locs 0 0 (MQ below (QI G res.1 res.2) args s 0 0 (Ab G)) (F0 m 10 ls [])) {l1 : Nat} {l2 : Nat} {l3 : Int32} {l4 : Int32} {l5 : Int32} {l6 : Int32} {S : St} {res : (Int32 × St)} {H : Heap} {locs : List Loc} {ls : Array Slot} (kl1 : kd l1 = 8) (kl2 : kd l2 = 20) (hd : Dy G S s H locs) (hl : lv_has ls 9 [(0, .ref (gR G 140)), (1, .ref (gR G l1)), (2, .ref (gR G l2)), (3, .int l3), (4, .int l4), (5, .int l5), (6, .int l6)]) (h : KX5_meeting_10 r10 l1 l2 l3 l4 l5 l6 S = some res) : W p l e (rmL 4 0 0) s m args below meth c H locs 0 0 (MQ below (QI G res.1 res.2) args s 0 0 (Ab G)) (F0 m 10 ls []) := by
  unfold KX5_meeting_10 at h
  have hx := C.1.1
  have hb := C.1.2.1
  refine lv_iload hx hb dX5_meeting_10 (lv_at hl 6 rfl) ?_
  refine lv_aload_n hx hb dX5_meeting_12 rfl (lv_at hl 1 rfl) ?_
  refine gX5_15 C hd kl1 dX5_meeting_13 ?_
  refine lv_icmp_ge (tgt := 84) hx hb dX5_meeting_16 (by decide) (fun c1 => ?_) (fun c1 => ?_)
  · rw [if_pos c1] at h
    refine lv_iload_n hx hb dX5_meeting_84 rfl (lv_at hl 3 rfl) ?_
    refine lv_if_ne (tgt := 94) hx hb dX5_meeting_85 (by decide) (fun c2 => ?_) (fun c2 => ?_)
    · rw [if_neg c2] at h
      refine lv_iload hx hb dX5_meeting_94 (lv_at hl 5 rfl) ?_
      refine lv_goto (tgt := 101) hx hb dX5_meeting_96 (by decide) ?_
      exact R_iret C hr hd h dX5_meeting_101
    · rw [if_pos c2] at h
      refine lv_iload hx hb dX5_meeting_88 (lv_at hl 5 rfl) ?_
      refine lv_iconst (v := -1) hx hb dX5_meeting_90 (by decide) ?_
      refine lv_icmp_ne (tgt := 99) hx hb dX5_meeting_91 (by decide) (fun c3 => ?_) (fun c3 => ?_)
      · rw [if_neg c3] at h
        refine lv_iload hx hb dX5_meeting_99 (lv_at hl 4 rfl) ?_
        exact R_iret C hr hd h dX5_meeting_101
      · rw [if_pos c3] at h
        refine lv_iload hx hb dX5_meeting_94 (lv_at hl 5 rfl) ?_
        refine lv_goto (tgt := 101) hx hb dX5_meeting_96 (by decide) ?_
        exact R_iret C hr hd h dX5_meeting_101
  · rw [if_neg c1] at h
    refine lv_iconst (v := 0) hx hb dX5_meeting_19 (by decide) ?_
    refine lv_istore (lv' := [(7, .int 0), (0, .ref (gR G 140)), (1, .ref (gR G l1)), (2, .ref (gR G l2)), (3, .int l3), (4, .int l4), (5, .int l5), (6, .int l6)]) hx hb dX5_meeting_20 hl (by decide) rfl (fun ls hl => ?_)
    refine lv_iconst (v := 0) hx hb dX5_meeting_22 (by decide) ?_
    refine lv_istore (lv' := [(8, .int 0), (7, .int 0), (0, .ref (gR G 140)), (1, .ref (gR G l1)), (2, .ref (gR G l2)), (3, .int l3), (4, .int l4), (5, .int l5), (6, .int l6)]) hx hb dX5_meeting_23 hl (by decide) rfl (fun ls hl => ?_)
    exact sLX5_meeting_25 C hr hr10 _ l1 l2 l3 l4 l5 l6 0 0 _ _ _ _ _ kl1 kl2 hd (lv_sub hl [2, 3, 4, 5, 6, 7, 8, 1, 0] rfl) h
def LX5_meeting_10 : Nat → Nat → Nat → Int32 → Int32 → Int32 → Int32 → St → Option (Int32 × St)
  | 0 => fun _ _ _ _ _ _ _ => none
  | n + 1 => fun l1 l2 l3 l4 l5 l6 S => KX5_meeting_10 (LX5_meeting_10 n) l1 l2 l3 l4 l5 l6 S
theorem sLX5_meeting_10 (C : Cx p s m args meth c cX5_meeting 9 RX5 G) (hr : meth.sig.returnType = some .int) : ∀ (n : Nat) (l1 : Nat) (l2 : Nat) (l3 : Int32) (l4 : Int32) (l5 : Int32) (l6 : Int32) (S : St) (res : (Int32 × St)) (H : Heap) (locs : List Loc) (ls : Array Slot), kd l1 = 8 → kd l2 = 20 → Dy G S s H locs → lv_has ls 9 [(0, .ref (gR G 140)), (1, .ref (gR G l1)), (2, .ref (gR G l2)), (3, .int l3), (4, .int l4), (5, .int l5), (6, .int l6)] → LX5_meeting_10 n l1 l2 l3 l4 l5 l6 S = some res → W p l e (rmL 4 0 0) s m args below meth c H locs 0 0 (MQ below (QI G res.1 res.2) args s 0 0 (Ab G)) (F0 m 10 ls []) := by
  intro n
  induction n with
  | zero => intro l1 l2 l3 l4 l5 l6 S res H locs ls kl1 kl2 hd hl h; cases h
  | succ n ih =>
    intro l1 l2 l3 l4 l5 l6 S res H locs ls kl1 kl2 hd hl h
    exact sKX5_meeting_10 C hr ih kl1 kl2 hd hl h
def fX5_meeting (a1 : Nat) (a2 : Nat) (a3 : Int32) (S : St) : Option (Int32 × St) :=
  (LX5_meeting_10 FU a1 a2 a3 1000000 ((-1)) 0 S)
set_option maxHeartbeats 4000000 in
set_option maxRecDepth 20000 in
theorem sfX5_meeting (C : Cx p s m args meth c cX5_meeting 9 RX5 G) (hr : meth.sig.returnType = some .int) {a1 : Nat} {a2 : Nat} {a3 : Int32} {S : St} {res : (Int32 × St)} {H : Heap} {locs : List Loc} {ls : Array Slot} (k1 : kd a1 = 8) (k2 : kd a2 = 20) (hd : Dy G S s H locs) (hl : lv_has ls 9 [(0, .ref (gR G 140)), (1, .ref (gR G a1)), (2, .ref (gR G a2)), (3, .int a3)]) (h : fX5_meeting a1 a2 a3 S = some res) : W p l e (rmL 4 0 0) s m args below meth c H locs 0 0 (MQ below (QI G res.1 res.2) args s 0 0 (Ab G)) (F0 m 0 ls []) := by
  unfold fX5_meeting at h
  have hx := C.1.1
  have hb := C.1.2.1
  refine lv_ldc hx hb C.1.2.2.2.1 (C.1.2.2.2.2 _ kcX5_41) dX5_meeting_0 ?_
  refine lv_istore (lv' := [(4, .int 1000000), (0, .ref (gR G 140)), (1, .ref (gR G a1)), (2, .ref (gR G a2)), (3, .int a3)]) hx hb dX5_meeting_2 hl (by decide) rfl (fun ls hl => ?_)
  refine lv_iconst (v := -1) hx hb dX5_meeting_4 (by decide) ?_
  refine lv_istore (lv' := [(5, .int ((-1))), (4, .int 1000000), (0, .ref (gR G 140)), (1, .ref (gR G a1)), (2, .ref (gR G a2)), (3, .int a3)]) hx hb dX5_meeting_5 hl (by decide) rfl (fun ls hl => ?_)
  refine lv_iconst (v := 0) hx hb dX5_meeting_7 (by decide) ?_
  refine lv_istore (lv' := [(6, .int 0), (5, .int ((-1))), (4, .int 1000000), (0, .ref (gR G 140)), (1, .ref (gR G a1)), (2, .ref (gR G a2)), (3, .int a3)]) hx hb dX5_meeting_8 hl (by decide) rfl (fun ls hl => ?_)
  exact sLX5_meeting_10 C hr _ a1 a2 a3 1000000 ((-1)) 0 _ _ _ _ _ k1 k2 hd (lv_sub hl [3, 4, 5, 6, 2, 1, 0] rfl) h
set_option maxRecDepth 20000 in
theorem ccX5_meeting (l : Launch) (G : Gt) {a1 : Nat} {a2 : Nat} {a3 : Int32} {S : St} {res : (Int32 × St)} (k1 : kd a1 = 8) (k2 : kd a2 = 20) (h : fX5_meeting a1 a2 a3 S = some res) : Met l yX5_meeting (wm yX5_meeting cX5_meeting 9 (some .int)) (rmL 4 0 0) (PcW G S [.ref (gR G 140), .ref (gR G a1), .ref (gR G a2), .int a3]) (QI G res.1 res.2) 0 0 (Ab G) := by
  refine Met.ofW (cc := cX5_meeting) (maxL := 9) (ret := (some .int)) (by decide) rfl ?_
  intro p e s m args below meth c s₁ B hml hv
  obtain ⟨rfl, hK, hP⟩ := hv
  have C : Cx p s m _ meth c cX5_meeting 9 RX5 G := ⟨⟨B.exec, B.bytes, hml, findClass_of_methodNamed B.named, fun w hw => atoms_spec (ws := wm yX5_meeting cX5_meeting 9 (some .int)) B.pre w (List.mem_cons_of_mem _ hw)⟩, B.notSynchronized, hK⟩
  have hl := lv_entry ([.ref (gR G 140), .ref (gR G a1), .ref (gR G a2), .int a3]) (n := 9) (Nat.le_of_ble_eq_true rfl)
  rw [lg_entry_eq]
  generalize (lg_sl ([.ref (gR G 140), .ref (gR G a1), .ref (gR G a2), .int a3]) ++ List.replicate (9 - (lg_sl ([.ref (gR G 140), .ref (gR G a1), .ref (gR G a2), .int a3])).length) Slot.unset).toArray = ls at hl ⊢
  exact sfX5_meeting C B.returns k1 k2 ⟨hP, va_S.rf⟩ hl h
def KX5_share_106 (r86 : Int32 → Int32 → Int32 → St → Option (Int32 × St)) (r97 : Int32 → Int32 → Int32 → Int32 → St → Option (Int32 × St)) (r106 : Int32 → Int32 → Int32 → Int32 → Int32 → St → Option (Int32 × St)) (l2 : Int32) (l3 : Int32) (l4 : Int32) (l5 : Int32) (l6 : Int32) (S : St) : Option (Int32 × St) :=
  (if l6 ≤ 0 then vl (l5 + (-1)) fun x2 => (r97 l2 l3 l4 x2 S) else rd S 141 l5 fun x5 => rd S 141 (l3 + l6) fun x7 => rd S 141 (l5 &&& (l6 ^^^ (-1))) fun x9 => vl (if x7 < x9 then x9 else x7) fun x10 => vl (if x10 < x5 then x10 else x5) fun x11 => wr S 141 l5 x11 fun S => vl ((l6 - 1) &&& l5) fun x12 => (r106 l2 l3 l4 l5 x12 S))
set_option maxHeartbeats 4000000 in
set_option maxRecDepth 20000 in
theorem sKX5_share_106 (C : Cx p s m args meth c cX5_share 7 RX5 G) (hr : meth.sig.returnType = some .int) {r86 : Int32 → Int32 → Int32 → St → Option (Int32 × St)} {r97 : Int32 → Int32 → Int32 → Int32 → St → Option (Int32 × St)} {r106 : Int32 → Int32 → Int32 → Int32 → Int32 → St → Option (Int32 × St)} (hr86 : ∀ (l2 : Int32) (l3 : Int32) (l4 : Int32) (S : St) (res : (Int32 × St)) (H : Heap) (locs : List Loc) (ls : Array Slot), Dy G S s H locs → lv_has ls 7 [(0, .ref (gR G 140)), (2, .int l2), (3, .int l3), (4, .int l4)] → r86 l2 l3 l4 S = some res → W p l e (rmL 3 0 0) s m args below meth c H locs 0 0 (MQ below (QI G res.1 res.2) args s 0 0 (Ab G)) (F0 m 86 ls [])) (hr97 : ∀ (l2 : Int32) (l3 : Int32) (l4 : Int32) (l5 : Int32) (S : St) (res : (Int32 × St)) (H : Heap) (locs : List Loc) (ls : Array Slot), Dy G S s H locs → lv_has ls 7 [(0, .ref (gR G 140)), (2, .int l2), (3, .int l3), (4, .int l4), (5, .int l5)] → r97 l2 l3 l4 l5 S = some res → W p l e (rmL 3 0 0) s m args below meth c H locs 0 0 (MQ below (QI G res.1 res.2) args s 0 0 (Ab G)) (F0 m 97 ls [])) (hr106 : ∀ (l2 : Int32) (l3 : Int32) (l4 : Int32) (l5 : Int32) (l6 : Int32) (S : St) (res : (Int32 × St)) (H : Heap) (locs : List Loc) (ls : Array Slot), Dy G S s H locs → lv_has ls 7 [(0, .ref (gR G 140)), (2, .int l2), (3, .int l3), (4, .int l4), (5, .int l5), (6, .int l6)] → r106 l2 l3 l4 l5 l6 S = some res → W p l e (rmL 3 0 0) s m args below meth c H locs 0 0 (MQ below (QI G res.1 res.2) args s 0 0 (Ab G)) (F0 m 106 ls [])) {l2 : Int32} {l3 : Int32} {l4 : Int32} {l5 : Int32} {l6 : Int32} {S : St} {res : (Int32 × St)} {H : Heap} {locs : List Loc} {ls : Array Slot}  (hd : Dy G S s H locs) (hl : lv_has ls 7 [(0, .ref (gR G 140)), (2, .int l2), (3, .int l3), (4, .int l4), (5, .int l5), (6, .int l6)]) (h : KX5_share_106 r86 r97 r106 l2 l3 l4 l5 l6 S = some res) : W p l e (rmL 3 0 0) s m args below meth c H locs 0 0 (MQ below (QI G res.1 res.2) args s 0 0 (Ab G)) (F0 m 106 ls []) := by
  unfold KX5_share_106 at h
  have hx := C.1.1
  have hb := C.1.2.1
  refine lv_iload hx hb dX5_share_106 (lv_at hl 5 rfl) ?_
  refine lv_if_le (tgt := 164) hx hb dX5_share_108 (by decide) (fun c1 => ?_) (fun c1 => ?_)
  · rw [if_pos c1] at h
    refine R_vi h (fun x2 ex2 h => ?_)
    refine lv_iinc (v := x2) (lv' := [(5, .int x2), (0, .ref (gR G 140)), (2, .int l2), (3, .int l3), (4, .int l4), (6, .int l6)]) hx hb dX5_share_164 hl (k := 4) rfl (by rw [ex2]; rfl) (by decide) rfl (fun ls hl => ?_)
    refine lv_goto (tgt := 97) hx hb dX5_share_167 (by decide) ?_
    exact hr97 l2 l3 l4 x2 _ _ _ _ _  hd (lv_sub hl [1, 2, 3, 4, 0] rfl) h
  · rw [if_neg c1] at h
    refine lv_aload_n hx hb dX5_share_111 rfl (lv_at hl 0 rfl) ?_
    refine gX5_9 C hd (rfl : kd 140 = 5) (q := 141) rfl dX5_share_112 (fun y3 => ?_)
    refine lv_iload hx hb dX5_share_115 (lv_at hl 4 rfl) ?_
    refine lv_aload_n hx hb dX5_share_117 rfl (lv_at hl 0 rfl) ?_
    refine gX5_9 C hd (rfl : kd 140 = 5) (q := 141) rfl dX5_share_118 (fun y4 => ?_)
    refine lv_iload hx hb dX5_share_121 (lv_at hl 4 rfl) ?_
    refine R_iald C hd y4 h dX5_share_123 (fun x5 h => ?_)
    refine lv_aload_n hx hb dX5_share_124 rfl (lv_at hl 0 rfl) ?_
    refine gX5_9 C hd (rfl : kd 140 = 5) (q := 141) rfl dX5_share_125 (fun y6 => ?_)
    refine lv_iload_n hx hb dX5_share_128 rfl (lv_at hl 2 rfl) ?_
    refine lv_iload hx hb dX5_share_129 (lv_at hl 5 rfl) ?_
    refine lv_iadd hx hb dX5_share_131 ?_
    refine R_iald C hd y6 h dX5_share_132 (fun x7 h => ?_)
    refine lv_aload_n hx hb dX5_share_133 rfl (lv_at hl 0 rfl) ?_
    refine gX5_9 C hd (rfl : kd 140 = 5) (q := 141) rfl dX5_share_134 (fun y8 => ?_)
    refine lv_iload hx hb dX5_share_137 (lv_at hl 4 rfl) ?_
    refine lv_iload hx hb dX5_share_139 (lv_at hl 5 rfl) ?_
    refine lv_iconst (v := -1) hx hb dX5_share_141 (by decide) ?_
    refine lv_ixor hx hb dX5_share_142 ?_
    refine lv_iand hx hb dX5_share_143 ?_
    refine R_iald C hd y8 h dX5_share_144 (fun x9 h => ?_)
    refine R_mmax C hl.1 kmX5_31 (Nat.le_of_ble_eq_true rfl) (Nat.le_of_ble_eq_true rfl) (Nat.le_of_ble_eq_true rfl) (Nat.le_of_ble_eq_true rfl) dX5_share_145 ?_
    refine R_vl h (fun x10 h => ?_)
    refine R_mmin C hl.1 kmX5_55 (Nat.le_of_ble_eq_true rfl) (Nat.le_of_ble_eq_true rfl) (Nat.le_of_ble_eq_true rfl) (Nat.le_of_ble_eq_true rfl) dX5_share_148 ?_
    refine R_vl h (fun x11 h => ?_)
    refine R_iast C hd y3 h dX5_share_151 (fun S H locs hd h => ?_)
    refine lv_iload hx hb dX5_share_152 (lv_at hl 5 rfl) ?_
    refine lv_iconst (v := 1) hx hb dX5_share_154 (by decide) ?_
    refine lv_isub hx hb dX5_share_155 ?_
    refine lv_iload hx hb dX5_share_156 (lv_at hl 4 rfl) ?_
    refine lv_iand hx hb dX5_share_158 ?_
    refine R_vl h (fun x12 h => ?_)
    refine lv_istore (lv' := [(6, .int x12), (0, .ref (gR G 140)), (2, .int l2), (3, .int l3), (4, .int l4), (5, .int l5)]) hx hb dX5_share_159 hl (by decide) rfl (fun ls hl => ?_)
    refine lv_goto (tgt := 106) hx hb dX5_share_161 (by decide) ?_
    exact hr106 l2 l3 l4 l5 x12 _ _ _ _ _  hd (lv_sub hl [1, 2, 3, 4, 5, 0] rfl) h
def LX5_share_106 (r86 : Int32 → Int32 → Int32 → St → Option (Int32 × St)) (r97 : Int32 → Int32 → Int32 → Int32 → St → Option (Int32 × St)) : Nat → Int32 → Int32 → Int32 → Int32 → Int32 → St → Option (Int32 × St)
  | 0 => fun _ _ _ _ _ _ => none
  | n + 1 => fun l2 l3 l4 l5 l6 S => KX5_share_106 r86 r97 (LX5_share_106 r86 r97 n) l2 l3 l4 l5 l6 S
theorem sLX5_share_106 (C : Cx p s m args meth c cX5_share 7 RX5 G) (hr : meth.sig.returnType = some .int) {r86 : Int32 → Int32 → Int32 → St → Option (Int32 × St)} {r97 : Int32 → Int32 → Int32 → Int32 → St → Option (Int32 × St)} (hr86 : ∀ (l2 : Int32) (l3 : Int32) (l4 : Int32) (S : St) (res : (Int32 × St)) (H : Heap) (locs : List Loc) (ls : Array Slot), Dy G S s H locs → lv_has ls 7 [(0, .ref (gR G 140)), (2, .int l2), (3, .int l3), (4, .int l4)] → r86 l2 l3 l4 S = some res → W p l e (rmL 3 0 0) s m args below meth c H locs 0 0 (MQ below (QI G res.1 res.2) args s 0 0 (Ab G)) (F0 m 86 ls [])) (hr97 : ∀ (l2 : Int32) (l3 : Int32) (l4 : Int32) (l5 : Int32) (S : St) (res : (Int32 × St)) (H : Heap) (locs : List Loc) (ls : Array Slot), Dy G S s H locs → lv_has ls 7 [(0, .ref (gR G 140)), (2, .int l2), (3, .int l3), (4, .int l4), (5, .int l5)] → r97 l2 l3 l4 l5 S = some res → W p l e (rmL 3 0 0) s m args below meth c H locs 0 0 (MQ below (QI G res.1 res.2) args s 0 0 (Ab G)) (F0 m 97 ls [])) : ∀ (n : Nat) (l2 : Int32) (l3 : Int32) (l4 : Int32) (l5 : Int32) (l6 : Int32) (S : St) (res : (Int32 × St)) (H : Heap) (locs : List Loc) (ls : Array Slot), Dy G S s H locs → lv_has ls 7 [(0, .ref (gR G 140)), (2, .int l2), (3, .int l3), (4, .int l4), (5, .int l5), (6, .int l6)] → LX5_share_106 r86 r97 n l2 l3 l4 l5 l6 S = some res → W p l e (rmL 3 0 0) s m args below meth c H locs 0 0 (MQ below (QI G res.1 res.2) args s 0 0 (Ab G)) (F0 m 106 ls []) := by
  intro n
  induction n with
  | zero => intro l2 l3 l4 l5 l6 S res H locs ls  hd hl h; cases h
  | succ n ih =>
    intro l2 l3 l4 l5 l6 S res H locs ls  hd hl h
    exact sKX5_share_106 C hr hr86 hr97 ih  hd hl h
def KX5_share_97 (r86 : Int32 → Int32 → Int32 → St → Option (Int32 × St)) (r97 : Int32 → Int32 → Int32 → Int32 → St → Option (Int32 × St)) (l2 : Int32) (l3 : Int32) (l4 : Int32) (l5 : Int32) (S : St) : Option (Int32 × St) :=
  (if l5 ≤ 0 then vl (l4 + 1) fun x2 => (r86 l2 l3 x2 S) else (LX5_share_106 r86 r97 FU l2 l3 l4 l5 l5 S))
set_option maxHeartbeats 4000000 in
set_option maxRecDepth 20000 in
theorem sKX5_share_97 (C : Cx p s m args meth c cX5_share 7 RX5 G) (hr : meth.sig.returnType = some .int) {r86 : Int32 → Int32 → Int32 → St → Option (Int32 × St)} {r97 : Int32 → Int32 → Int32 → Int32 → St → Option (Int32 × St)} (hr86 : ∀ (l2 : Int32) (l3 : Int32) (l4 : Int32) (S : St) (res : (Int32 × St)) (H : Heap) (locs : List Loc) (ls : Array Slot), Dy G S s H locs → lv_has ls 7 [(0, .ref (gR G 140)), (2, .int l2), (3, .int l3), (4, .int l4)] → r86 l2 l3 l4 S = some res → W p l e (rmL 3 0 0) s m args below meth c H locs 0 0 (MQ below (QI G res.1 res.2) args s 0 0 (Ab G)) (F0 m 86 ls [])) (hr97 : ∀ (l2 : Int32) (l3 : Int32) (l4 : Int32) (l5 : Int32) (S : St) (res : (Int32 × St)) (H : Heap) (locs : List Loc) (ls : Array Slot), Dy G S s H locs → lv_has ls 7 [(0, .ref (gR G 140)), (2, .int l2), (3, .int l3), (4, .int l4), (5, .int l5)] → r97 l2 l3 l4 l5 S = some res → W p l e (rmL 3 0 0) s m args below meth c H locs 0 0 (MQ below (QI G res.1 res.2) args s 0 0 (Ab G)) (F0 m 97 ls [])) {l2 : Int32} {l3 : Int32} {l4 : Int32} {l5 : Int32} {S : St} {res : (Int32 × St)} {H : Heap} {locs : List Loc} {ls : Array Slot}  (hd : Dy G S s H locs) (hl : lv_has ls 7 [(0, .ref (gR G 140)), (2, .int l2), (3, .int l3), (4, .int l4), (5, .int l5)]) (h : KX5_share_97 r86 r97 l2 l3 l4 l5 S = some res) : W p l e (rmL 3 0 0) s m args below meth c H locs 0 0 (MQ below (QI G res.1 res.2) args s 0 0 (Ab G)) (F0 m 97 ls []) := by
  unfold KX5_share_97 at h
  have hx := C.1.1
  have hb := C.1.2.1
  refine lv_iload hx hb dX5_share_97 (lv_at hl 4 rfl) ?_
  refine lv_if_le (tgt := 170) hx hb dX5_share_99 (by decide) (fun c1 => ?_) (fun c1 => ?_)
  · rw [if_pos c1] at h
    refine R_vi h (fun x2 ex2 h => ?_)
    refine lv_iinc (v := x2) (lv' := [(4, .int x2), (0, .ref (gR G 140)), (2, .int l2), (3, .int l3), (5, .int l5)]) hx hb dX5_share_170 hl (k := 3) rfl (by rw [ex2]; rfl) (by decide) rfl (fun ls hl => ?_)
    refine lv_goto (tgt := 86) hx hb dX5_share_173 (by decide) ?_
    exact hr86 l2 l3 x2 _ _ _ _ _  hd (lv_sub hl [1, 2, 3, 0] rfl) h
  · rw [if_neg c1] at h
    refine lv_iload hx hb dX5_share_102 (lv_at hl 4 rfl) ?_
    refine lv_istore (lv' := [(6, .int l5), (0, .ref (gR G 140)), (2, .int l2), (3, .int l3), (4, .int l4), (5, .int l5)]) hx hb dX5_share_104 hl (by decide) rfl (fun ls hl => ?_)
    exact sLX5_share_106 C hr hr86 hr97 _ l2 l3 l4 l5 l5 _ _ _ _ _  hd (lv_sub hl [1, 2, 3, 4, 5, 0] rfl) h
def LX5_share_97 (r86 : Int32 → Int32 → Int32 → St → Option (Int32 × St)) : Nat → Int32 → Int32 → Int32 → Int32 → St → Option (Int32 × St)
  | 0 => fun _ _ _ _ _ => none
  | n + 1 => fun l2 l3 l4 l5 S => KX5_share_97 r86 (LX5_share_97 r86 n) l2 l3 l4 l5 S
theorem sLX5_share_97 (C : Cx p s m args meth c cX5_share 7 RX5 G) (hr : meth.sig.returnType = some .int) {r86 : Int32 → Int32 → Int32 → St → Option (Int32 × St)} (hr86 : ∀ (l2 : Int32) (l3 : Int32) (l4 : Int32) (S : St) (res : (Int32 × St)) (H : Heap) (locs : List Loc) (ls : Array Slot), Dy G S s H locs → lv_has ls 7 [(0, .ref (gR G 140)), (2, .int l2), (3, .int l3), (4, .int l4)] → r86 l2 l3 l4 S = some res → W p l e (rmL 3 0 0) s m args below meth c H locs 0 0 (MQ below (QI G res.1 res.2) args s 0 0 (Ab G)) (F0 m 86 ls [])) : ∀ (n : Nat) (l2 : Int32) (l3 : Int32) (l4 : Int32) (l5 : Int32) (S : St) (res : (Int32 × St)) (H : Heap) (locs : List Loc) (ls : Array Slot), Dy G S s H locs → lv_has ls 7 [(0, .ref (gR G 140)), (2, .int l2), (3, .int l3), (4, .int l4), (5, .int l5)] → LX5_share_97 r86 n l2 l3 l4 l5 S = some res → W p l e (rmL 3 0 0) s m args below meth c H locs 0 0 (MQ below (QI G res.1 res.2) args s 0 0 (Ab G)) (F0 m 97 ls []) := by
  intro n
  induction n with
  | zero => intro l2 l3 l4 l5 S res H locs ls  hd hl h; cases h
  | succ n ih =>
    intro l2 l3 l4 l5 S res H locs ls  hd hl h
    exact sKX5_share_97 C hr hr86 ih  hd hl h
def KX5_share_86 (r86 : Int32 → Int32 → Int32 → St → Option (Int32 × St)) (l2 : Int32) (l3 : Int32) (l4 : Int32) (S : St) : Option (Int32 × St) :=
  (if l2 ≤ l4 then rd S 141 (l3 - 1) fun x3 => ri x3 S else vl (l3 - 1) fun x4 => (LX5_share_97 r86 FU l2 l3 l4 x4 S))
set_option maxHeartbeats 4000000 in
set_option maxRecDepth 20000 in
theorem sKX5_share_86 (C : Cx p s m args meth c cX5_share 7 RX5 G) (hr : meth.sig.returnType = some .int) {r86 : Int32 → Int32 → Int32 → St → Option (Int32 × St)} (hr86 : ∀ (l2 : Int32) (l3 : Int32) (l4 : Int32) (S : St) (res : (Int32 × St)) (H : Heap) (locs : List Loc) (ls : Array Slot), Dy G S s H locs → lv_has ls 7 [(0, .ref (gR G 140)), (2, .int l2), (3, .int l3), (4, .int l4)] → r86 l2 l3 l4 S = some res → W p l e (rmL 3 0 0) s m args below meth c H locs 0 0 (MQ below (QI G res.1 res.2) args s 0 0 (Ab G)) (F0 m 86 ls [])) {l2 : Int32} {l3 : Int32} {l4 : Int32} {S : St} {res : (Int32 × St)} {H : Heap} {locs : List Loc} {ls : Array Slot}  (hd : Dy G S s H locs) (hl : lv_has ls 7 [(0, .ref (gR G 140)), (2, .int l2), (3, .int l3), (4, .int l4)]) (h : KX5_share_86 r86 l2 l3 l4 S = some res) : W p l e (rmL 3 0 0) s m args below meth c H locs 0 0 (MQ below (QI G res.1 res.2) args s 0 0 (Ab G)) (F0 m 86 ls []) := by
  unfold KX5_share_86 at h
  have hx := C.1.1
  have hb := C.1.2.1
  refine lv_iload hx hb dX5_share_86 (lv_at hl 3 rfl) ?_
  refine lv_iload_n hx hb dX5_share_88 rfl (lv_at hl 1 rfl) ?_
  refine lv_icmp_ge (tgt := 176) hx hb dX5_share_89 (by decide) (fun c1 => ?_) (fun c1 => ?_)
  · rw [if_pos c1] at h
    refine lv_aload_n hx hb dX5_share_176 rfl (lv_at hl 0 rfl) ?_
    refine gX5_9 C hd (rfl : kd 140 = 5) (q := 141) rfl dX5_share_177 (fun y2 => ?_)
    refine lv_iload_n hx hb dX5_share_180 rfl (lv_at hl 2 rfl) ?_
    refine lv_iconst (v := 1) hx hb dX5_share_181 (by decide) ?_
    refine lv_isub hx hb dX5_share_182 ?_
    refine R_iald C hd y2 h dX5_share_183 (fun x3 h => ?_)
    exact R_iret C hr hd h dX5_share_184
  · rw [if_neg c1] at h
    refine lv_iload_n hx hb dX5_share_92 rfl (lv_at hl 2 rfl) ?_
    refine lv_iconst (v := 1) hx hb dX5_share_93 (by decide) ?_
    refine lv_isub hx hb dX5_share_94 ?_
    refine R_vl h (fun x4 h => ?_)
    refine lv_istore (lv' := [(5, .int x4), (0, .ref (gR G 140)), (2, .int l2), (3, .int l3), (4, .int l4)]) hx hb dX5_share_95 hl (by decide) rfl (fun ls hl => ?_)
    exact sLX5_share_97 C hr hr86 _ l2 l3 l4 x4 _ _ _ _ _  hd (lv_sub hl [1, 2, 3, 4, 0] rfl) h
def LX5_share_86 : Nat → Int32 → Int32 → Int32 → St → Option (Int32 × St)
  | 0 => fun _ _ _ _ => none
  | n + 1 => fun l2 l3 l4 S => KX5_share_86 (LX5_share_86 n) l2 l3 l4 S
theorem sLX5_share_86 (C : Cx p s m args meth c cX5_share 7 RX5 G) (hr : meth.sig.returnType = some .int) : ∀ (n : Nat) (l2 : Int32) (l3 : Int32) (l4 : Int32) (S : St) (res : (Int32 × St)) (H : Heap) (locs : List Loc) (ls : Array Slot), Dy G S s H locs → lv_has ls 7 [(0, .ref (gR G 140)), (2, .int l2), (3, .int l3), (4, .int l4)] → LX5_share_86 n l2 l3 l4 S = some res → W p l e (rmL 3 0 0) s m args below meth c H locs 0 0 (MQ below (QI G res.1 res.2) args s 0 0 (Ab G)) (F0 m 86 ls []) := by
  intro n
  induction n with
  | zero => intro l2 l3 l4 S res H locs ls  hd hl h; cases h
  | succ n ih =>
    intro l2 l3 l4 S res H locs ls  hd hl h
    exact sKX5_share_86 C hr ih  hd hl h
def KX5_share_22 (r10 : Nat → Int32 → Int32 → Int32 → St → Option (Int32 × St)) (r22 : Nat → Int32 → Int32 → Int32 → Int32 → Int32 → St → Option (Int32 × St)) (l1 : Nat) (l2 : Int32) (l3 : Int32) (l4 : Int32) (l5 : Int32) (l6 : Int32) (S : St) : Option (Int32 × St) :=
  (if (S l1 0) ≤ l6 then wr S 141 l4 l5 fun S => wr S 141 (l3 + l4) l5 fun S => vl (l4 + 1) fun x4 => (r10 l1 l2 l3 x4 S) else rd S (sr l1 3) l6 fun x6 => vl (l5 + (((l4 >>> (l6 &&& 31)) &&& 1) * x6)) fun x7 => vl (l6 + 1) fun x8 => (r22 l1 l2 l3 l4 x7 x8 S))
set_option maxHeartbeats 4000000 in
set_option maxRecDepth 20000 in
theorem sKX5_share_22 (C : Cx p s m args meth c cX5_share 7 RX5 G) (hr : meth.sig.returnType = some .int) {r10 : Nat → Int32 → Int32 → Int32 → St → Option (Int32 × St)} {r22 : Nat → Int32 → Int32 → Int32 → Int32 → Int32 → St → Option (Int32 × St)} (hr10 : ∀ (l1 : Nat) (l2 : Int32) (l3 : Int32) (l4 : Int32) (S : St) (res : (Int32 × St)) (H : Heap) (locs : List Loc) (ls : Array Slot), kd l1 = 8 → Dy G S s H locs → lv_has ls 7 [(0, .ref (gR G 140)), (1, .ref (gR G l1)), (2, .int l2), (3, .int l3), (4, .int l4)] → r10 l1 l2 l3 l4 S = some res → W p l e (rmL 3 0 0) s m args below meth c H locs 0 0 (MQ below (QI G res.1 res.2) args s 0 0 (Ab G)) (F0 m 10 ls [])) (hr22 : ∀ (l1 : Nat) (l2 : Int32) (l3 : Int32) (l4 : Int32) (l5 : Int32) (l6 : Int32) (S : St) (res : (Int32 × St)) (H : Heap) (locs : List Loc) (ls : Array Slot), kd l1 = 8 → Dy G S s H locs → lv_has ls 7 [(0, .ref (gR G 140)), (1, .ref (gR G l1)), (2, .int l2), (3, .int l3), (4, .int l4), (5, .int l5), (6, .int l6)] → r22 l1 l2 l3 l4 l5 l6 S = some res → W p l e (rmL 3 0 0) s m args below meth c H locs 0 0 (MQ below (QI G res.1 res.2) args s 0 0 (Ab G)) (F0 m 22 ls [])) {l1 : Nat} {l2 : Int32} {l3 : Int32} {l4 : Int32} {l5 : Int32} {l6 : Int32} {S : St} {res : (Int32 × St)} {H : Heap} {locs : List Loc} {ls : Array Slot} (kl1 : kd l1 = 8) (hd : Dy G S s H locs) (hl : lv_has ls 7 [(0, .ref (gR G 140)), (1, .ref (gR G l1)), (2, .int l2), (3, .int l3), (4, .int l4), (5, .int l5), (6, .int l6)]) (h : KX5_share_22 r10 r22 l1 l2 l3 l4 l5 l6 S = some res) : W p l e (rmL 3 0 0) s m args below meth c H locs 0 0 (MQ below (QI G res.1 res.2) args s 0 0 (Ab G)) (F0 m 22 ls []) := by
  unfold KX5_share_22 at h
  have hx := C.1.1
  have hb := C.1.2.1
  refine lv_iload hx hb dX5_share_22 (lv_at hl 6 rfl) ?_
  refine lv_aload_n hx hb dX5_share_24 rfl (lv_at hl 1 rfl) ?_
  refine gX5_15 C hd kl1 dX5_share_25 ?_
  refine lv_icmp_ge (tgt := 57) hx hb dX5_share_28 (by decide) (fun c1 => ?_) (fun c1 => ?_)
  · rw [if_pos c1] at h
    refine lv_aload_n hx hb dX5_share_57 rfl (lv_at hl 0 rfl) ?_
    refine gX5_9 C hd (rfl : kd 140 = 5) (q := 141) rfl dX5_share_58 (fun y2 => ?_)
    refine lv_iload hx hb dX5_share_61 (lv_at hl 4 rfl) ?_
    refine lv_iload hx hb dX5_share_63 (lv_at hl 5 rfl) ?_
    refine R_iast C hd y2 h dX5_share_65 (fun S H locs hd h => ?_)
    refine lv_aload_n hx hb dX5_share_66 rfl (lv_at hl 0 rfl) ?_
    refine gX5_9 C hd (rfl : kd 140 = 5) (q := 141) rfl dX5_share_67 (fun y3 => ?_)
    refine lv_iload_n hx hb dX5_share_70 rfl (lv_at hl 3 rfl) ?_
    refine lv_iload hx hb dX5_share_71 (lv_at hl 4 rfl) ?_
    refine lv_iadd hx hb dX5_share_73 ?_
    refine lv_iload hx hb dX5_share_74 (lv_at hl 5 rfl) ?_
    refine R_iast C hd y3 h dX5_share_76 (fun S H locs hd h => ?_)
    refine R_vi h (fun x4 ex4 h => ?_)
    refine lv_iinc (v := x4) (lv' := [(4, .int x4), (0, .ref (gR G 140)), (1, .ref (gR G l1)), (2, .int l2), (3, .int l3), (5, .int l5), (6, .int l6)]) hx hb dX5_share_77 hl (k := 4) rfl (by rw [ex4]; rfl) (by decide) rfl (fun ls hl => ?_)
    refine lv_goto (tgt := 10) hx hb dX5_share_80 (by decide) ?_
    exact hr10 l1 l2 l3 x4 _ _ _ _ _ kl1 hd (lv_sub hl [1, 2, 3, 4, 0] rfl) h
  · rw [if_neg c1] at h
    refine lv_iload hx hb dX5_share_31 (lv_at hl 5 rfl) ?_
    refine lv_iload hx hb dX5_share_33 (lv_at hl 4 rfl) ?_
    refine lv_iload hx hb dX5_share_35 (lv_at hl 6 rfl) ?_
    refine lv_ishr hx hb dX5_share_37 ?_
    refine lv_iconst (v := 1) hx hb dX5_share_38 (by decide) ?_
    refine lv_iand hx hb dX5_share_39 ?_
    refine lv_aload_n hx hb dX5_share_40 rfl (lv_at hl 1 rfl) ?_
    refine gX5_65 C hd kl1 (q := sr l1 3) rfl dX5_share_41 (fun y5 => ?_)
    refine lv_iload hx hb dX5_share_44 (lv_at hl 6 rfl) ?_
    refine R_iald C hd y5 h dX5_share_46 (fun x6 h => ?_)
    refine lv_imul hx hb dX5_share_47 ?_
    refine lv_iadd hx hb dX5_share_48 ?_
    refine R_vl h (fun x7 h => ?_)
    refine lv_istore (lv' := [(5, .int x7), (0, .ref (gR G 140)), (1, .ref (gR G l1)), (2, .int l2), (3, .int l3), (4, .int l4), (6, .int l6)]) hx hb dX5_share_49 hl (by decide) rfl (fun ls hl => ?_)
    refine R_vi h (fun x8 ex8 h => ?_)
    refine lv_iinc (v := x8) (lv' := [(6, .int x8), (5, .int x7), (0, .ref (gR G 140)), (1, .ref (gR G l1)), (2, .int l2), (3, .int l3), (4, .int l4)]) hx hb dX5_share_51 hl (k := 6) rfl (by rw [ex8]; rfl) (by decide) rfl (fun ls hl => ?_)
    refine lv_goto (tgt := 22) hx hb dX5_share_54 (by decide) ?_
    exact hr22 l1 l2 l3 l4 x7 x8 _ _ _ _ _ kl1 hd (lv_sub hl [2, 3, 4, 5, 6, 1, 0] rfl) h
def LX5_share_22 (r10 : Nat → Int32 → Int32 → Int32 → St → Option (Int32 × St)) : Nat → Nat → Int32 → Int32 → Int32 → Int32 → Int32 → St → Option (Int32 × St)
  | 0 => fun _ _ _ _ _ _ _ => none
  | n + 1 => fun l1 l2 l3 l4 l5 l6 S => KX5_share_22 r10 (LX5_share_22 r10 n) l1 l2 l3 l4 l5 l6 S
theorem sLX5_share_22 (C : Cx p s m args meth c cX5_share 7 RX5 G) (hr : meth.sig.returnType = some .int) {r10 : Nat → Int32 → Int32 → Int32 → St → Option (Int32 × St)} (hr10 : ∀ (l1 : Nat) (l2 : Int32) (l3 : Int32) (l4 : Int32) (S : St) (res : (Int32 × St)) (H : Heap) (locs : List Loc) (ls : Array Slot), kd l1 = 8 → Dy G S s H locs → lv_has ls 7 [(0, .ref (gR G 140)), (1, .ref (gR G l1)), (2, .int l2), (3, .int l3), (4, .int l4)] → r10 l1 l2 l3 l4 S = some res → W p l e (rmL 3 0 0) s m args below meth c H locs 0 0 (MQ below (QI G res.1 res.2) args s 0 0 (Ab G)) (F0 m 10 ls [])) : ∀ (n : Nat) (l1 : Nat) (l2 : Int32) (l3 : Int32) (l4 : Int32) (l5 : Int32) (l6 : Int32) (S : St) (res : (Int32 × St)) (H : Heap) (locs : List Loc) (ls : Array Slot), kd l1 = 8 → Dy G S s H locs → lv_has ls 7 [(0, .ref (gR G 140)), (1, .ref (gR G l1)), (2, .int l2), (3, .int l3), (4, .int l4), (5, .int l5), (6, .int l6)] → LX5_share_22 r10 n l1 l2 l3 l4 l5 l6 S = some res → W p l e (rmL 3 0 0) s m args below meth c H locs 0 0 (MQ below (QI G res.1 res.2) args s 0 0 (Ab G)) (F0 m 22 ls []) := by
  intro n
  induction n with
  | zero => intro l1 l2 l3 l4 l5 l6 S res H locs ls kl1 hd hl h; cases h
  | succ n ih =>
    intro l1 l2 l3 l4 l5 l6 S res H locs ls kl1 hd hl h
    exact sKX5_share_22 C hr hr10 ih kl1 hd hl h
def KX5_share_10 (r10 : Nat → Int32 → Int32 → Int32 → St → Option (Int32 × St)) (l1 : Nat) (l2 : Int32) (l3 : Int32) (l4 : Int32) (S : St) : Option (Int32 × St) :=
  (if l3 ≤ l4 then (LX5_share_86 FU l2 l3 1 S) else (LX5_share_22 r10 FU l1 l2 l3 l4 0 0 S))
set_option maxHeartbeats 4000000 in
set_option maxRecDepth 20000 in
theorem sKX5_share_10 (C : Cx p s m args meth c cX5_share 7 RX5 G) (hr : meth.sig.returnType = some .int) {r10 : Nat → Int32 → Int32 → Int32 → St → Option (Int32 × St)} (hr10 : ∀ (l1 : Nat) (l2 : Int32) (l3 : Int32) (l4 : Int32) (S : St) (res : (Int32 × St)) (H : Heap) (locs : List Loc) (ls : Array Slot), kd l1 = 8 → Dy G S s H locs → lv_has ls 7 [(0, .ref (gR G 140)), (1, .ref (gR G l1)), (2, .int l2), (3, .int l3), (4, .int l4)] → r10 l1 l2 l3 l4 S = some res → W p l e (rmL 3 0 0) s m args below meth c H locs 0 0 (MQ below (QI G res.1 res.2) args s 0 0 (Ab G)) (F0 m 10 ls [])) {l1 : Nat} {l2 : Int32} {l3 : Int32} {l4 : Int32} {S : St} {res : (Int32 × St)} {H : Heap} {locs : List Loc} {ls : Array Slot} (kl1 : kd l1 = 8) (hd : Dy G S s H locs) (hl : lv_has ls 7 [(0, .ref (gR G 140)), (1, .ref (gR G l1)), (2, .int l2), (3, .int l3), (4, .int l4)]) (h : KX5_share_10 r10 l1 l2 l3 l4 S = some res) : W p l e (rmL 3 0 0) s m args below meth c H locs 0 0 (MQ below (QI G res.1 res.2) args s 0 0 (Ab G)) (F0 m 10 ls []) := by
  unfold KX5_share_10 at h
  have hx := C.1.1
  have hb := C.1.2.1
  refine lv_iload hx hb dX5_share_10 (lv_at hl 4 rfl) ?_
  refine lv_iload_n hx hb dX5_share_12 rfl (lv_at hl 3 rfl) ?_
  refine lv_icmp_ge (tgt := 83) hx hb dX5_share_13 (by decide) (fun c1 => ?_) (fun c1 => ?_)
  · rw [if_pos c1] at h
    refine lv_iconst (v := 1) hx hb dX5_share_83 (by decide) ?_
    refine lv_istore (lv' := [(4, .int 1), (0, .ref (gR G 140)), (1, .ref (gR G l1)), (2, .int l2), (3, .int l3)]) hx hb dX5_share_84 hl (by decide) rfl (fun ls hl => ?_)
    exact sLX5_share_86 C hr _ l2 l3 1 _ _ _ _ _  hd (lv_sub hl [1, 3, 4, 0] rfl) h
  · rw [if_neg c1] at h
    refine lv_iconst (v := 0) hx hb dX5_share_16 (by decide) ?_
    refine lv_istore (lv' := [(5, .int 0), (0, .ref (gR G 140)), (1, .ref (gR G l1)), (2, .int l2), (3, .int l3), (4, .int l4)]) hx hb dX5_share_17 hl (by decide) rfl (fun ls hl => ?_)
    refine lv_iconst (v := 0) hx hb dX5_share_19 (by decide) ?_
    refine lv_istore (lv' := [(6, .int 0), (5, .int 0), (0, .ref (gR G 140)), (1, .ref (gR G l1)), (2, .int l2), (3, .int l3), (4, .int l4)]) hx hb dX5_share_20 hl (by decide) rfl (fun ls hl => ?_)
    exact sLX5_share_22 C hr hr10 _ l1 l2 l3 l4 0 0 _ _ _ _ _ kl1 hd (lv_sub hl [2, 3, 4, 5, 6, 1, 0] rfl) h
def LX5_share_10 : Nat → Nat → Int32 → Int32 → Int32 → St → Option (Int32 × St)
  | 0 => fun _ _ _ _ _ => none
  | n + 1 => fun l1 l2 l3 l4 S => KX5_share_10 (LX5_share_10 n) l1 l2 l3 l4 S
theorem sLX5_share_10 (C : Cx p s m args meth c cX5_share 7 RX5 G) (hr : meth.sig.returnType = some .int) : ∀ (n : Nat) (l1 : Nat) (l2 : Int32) (l3 : Int32) (l4 : Int32) (S : St) (res : (Int32 × St)) (H : Heap) (locs : List Loc) (ls : Array Slot), kd l1 = 8 → Dy G S s H locs → lv_has ls 7 [(0, .ref (gR G 140)), (1, .ref (gR G l1)), (2, .int l2), (3, .int l3), (4, .int l4)] → LX5_share_10 n l1 l2 l3 l4 S = some res → W p l e (rmL 3 0 0) s m args below meth c H locs 0 0 (MQ below (QI G res.1 res.2) args s 0 0 (Ab G)) (F0 m 10 ls []) := by
  intro n
  induction n with
  | zero => intro l1 l2 l3 l4 S res H locs ls kl1 hd hl h; cases h
  | succ n ih =>
    intro l1 l2 l3 l4 S res H locs ls kl1 hd hl h
    exact sKX5_share_10 C hr ih kl1 hd hl h
def fX5_share (a1 : Nat) (a2 : Int32) (S : St) : Option (Int32 × St) :=
  vl ((1 : Int32) <<< ((S a1 0) &&& 31)) fun x1 => (LX5_share_10 FU a1 a2 x1 0 S)
set_option maxHeartbeats 4000000 in
set_option maxRecDepth 20000 in
theorem sfX5_share (C : Cx p s m args meth c cX5_share 7 RX5 G) (hr : meth.sig.returnType = some .int) {a1 : Nat} {a2 : Int32} {S : St} {res : (Int32 × St)} {H : Heap} {locs : List Loc} {ls : Array Slot} (k1 : kd a1 = 8) (hd : Dy G S s H locs) (hl : lv_has ls 7 [(0, .ref (gR G 140)), (1, .ref (gR G a1)), (2, .int a2)]) (h : fX5_share a1 a2 S = some res) : W p l e (rmL 3 0 0) s m args below meth c H locs 0 0 (MQ below (QI G res.1 res.2) args s 0 0 (Ab G)) (F0 m 0 ls []) := by
  unfold fX5_share at h
  have hx := C.1.1
  have hb := C.1.2.1
  refine lv_iconst (v := 1) hx hb dX5_share_0 (by decide) ?_
  refine lv_aload_n hx hb dX5_share_1 rfl (lv_at hl 1 rfl) ?_
  refine gX5_15 C hd k1 dX5_share_2 ?_
  refine lv_ishl hx hb dX5_share_5 ?_
  refine R_vl h (fun x1 h => ?_)
  refine lv_istore_n (lv' := [(3, .int x1), (0, .ref (gR G 140)), (1, .ref (gR G a1)), (2, .int a2)]) hx hb dX5_share_6 rfl hl (by decide) rfl (fun ls hl => ?_)
  refine lv_iconst (v := 0) hx hb dX5_share_7 (by decide) ?_
  refine lv_istore (lv' := [(4, .int 0), (3, .int x1), (0, .ref (gR G 140)), (1, .ref (gR G a1)), (2, .int a2)]) hx hb dX5_share_8 hl (by decide) rfl (fun ls hl => ?_)
  exact sLX5_share_10 C hr _ a1 a2 x1 0 _ _ _ _ _ k1 hd (lv_sub hl [2, 3, 4, 1, 0] rfl) h
set_option maxRecDepth 20000 in
theorem ccX5_share (l : Launch) (G : Gt) {a1 : Nat} {a2 : Int32} {S : St} {res : (Int32 × St)} (k1 : kd a1 = 8) (h : fX5_share a1 a2 S = some res) : Met l yX5_share (wm yX5_share cX5_share 7 (some .int)) (rmL 3 0 0) (PcW G S [.ref (gR G 140), .ref (gR G a1), .int a2]) (QI G res.1 res.2) 0 0 (Ab G) := by
  refine Met.ofW (cc := cX5_share) (maxL := 7) (ret := (some .int)) (by decide) rfl ?_
  intro p e s m args below meth c s₁ B hml hv
  obtain ⟨rfl, hK, hP⟩ := hv
  have C : Cx p s m _ meth c cX5_share 7 RX5 G := ⟨⟨B.exec, B.bytes, hml, findClass_of_methodNamed B.named, fun w hw => atoms_spec (ws := wm yX5_share cX5_share 7 (some .int)) B.pre w (List.mem_cons_of_mem _ hw)⟩, B.notSynchronized, hK⟩
  have hl := lv_entry ([.ref (gR G 140), .ref (gR G a1), .int a2]) (n := 7) (Nat.le_of_ble_eq_true rfl)
  rw [lg_entry_eq]
  generalize (lg_sl ([.ref (gR G 140), .ref (gR G a1), .int a2]) ++ List.replicate (7 - (lg_sl ([.ref (gR G 140), .ref (gR G a1), .int a2])).length) Slot.unset).toArray = ls at hl ⊢
  exact sfX5_share C B.returns k1 ⟨hP, va_S.rf⟩ hl h
def fX6_refuse (a1 : Int32) (S : St) : Option (Int32 × St) :=
  (if (S 32 3) = 0 then pf S 32 3 a1 fun S => pf S 32 4 (S 33 4) fun S => ri 0 S else ri 0 S)
set_option maxHeartbeats 4000000 in
set_option maxRecDepth 20000 in
theorem sfX6_refuse (C : Cx p s m args meth c cX6_refuse 2 RX6 G) (hr : meth.sig.returnType = some .int) {a1 : Int32} {S : St} {res : (Int32 × St)} {H : Heap} {locs : List Loc} {ls : Array Slot}  (hd : Dy G S s H locs) (hl : lv_has ls 2 [(0, .ref (gR G 32)), (1, .int a1)]) (h : fX6_refuse a1 S = some res) : W p l e (rmL 3 0 0) s m args below meth c H locs 0 0 (MQ below (QI G res.1 res.2) args s 0 0 (Ab G)) (F0 m 0 ls []) := by
  unfold fX6_refuse at h
  have hx := C.1.1
  have hb := C.1.2.1
  refine lv_aload_n hx hb dX6_refuse_0 rfl (lv_at hl 0 rfl) ?_
  refine gX6_38 C hd (rfl : kd 32 = 6) dX6_refuse_1 ?_
  refine lv_if_ne (tgt := 23) hx hb dX6_refuse_4 (by decide) (fun c1 => ?_) (fun c1 => ?_)
  · rw [if_neg c1] at h
    refine lv_iconst (v := 0) hx hb dX6_refuse_23 (by decide) ?_
    exact R_iret C hr hd h dX6_refuse_24
  · rw [if_pos c1] at h
    refine lv_aload_n hx hb dX6_refuse_7 rfl (lv_at hl 0 rfl) ?_
    refine lv_iload_n hx hb dX6_refuse_8 rfl (lv_at hl 1 rfl) ?_
    refine pX6_38 C hd (rfl : kd 32 = 6) h dX6_refuse_9 (fun S H locs hd h => ?_)
    refine lv_aload_n hx hb dX6_refuse_12 rfl (lv_at hl 0 rfl) ?_
    refine lv_aload_n hx hb dX6_refuse_13 rfl (lv_at hl 0 rfl) ?_
    refine gX6_14 C hd (rfl : kd 32 = 6) (q := 33) rfl dX6_refuse_14 (fun y2 => ?_)
    refine gX6_101 C hd y2 dX6_refuse_17 ?_
    refine pX6_42 C hd (rfl : kd 32 = 6) h dX6_refuse_20 (fun S H locs hd h => ?_)
    refine lv_iconst (v := 0) hx hb dX6_refuse_23 (by decide) ?_
    exact R_iret C hr hd h dX6_refuse_24
set_option maxRecDepth 20000 in
theorem ccX6_refuse (l : Launch) (G : Gt) {a1 : Int32} {S : St} {res : (Int32 × St)}  (h : fX6_refuse a1 S = some res) : Met l yX6_refuse (wm yX6_refuse cX6_refuse 2 (some .int)) (rmL 3 0 0) (PcW G S [.ref (gR G 32), .int a1]) (QI G res.1 res.2) 0 0 (Ab G) := by
  refine Met.ofW (cc := cX6_refuse) (maxL := 2) (ret := (some .int)) (by decide) rfl ?_
  intro p e s m args below meth c s₁ B hml hv
  obtain ⟨rfl, hK, hP⟩ := hv
  have C : Cx p s m _ meth c cX6_refuse 2 RX6 G := ⟨⟨B.exec, B.bytes, hml, findClass_of_methodNamed B.named, fun w hw => atoms_spec (ws := wm yX6_refuse cX6_refuse 2 (some .int)) B.pre w (List.mem_cons_of_mem _ hw)⟩, B.notSynchronized, hK⟩
  have hl := lv_entry ([.ref (gR G 32), .int a1]) (n := 2) (Nat.le_of_ble_eq_true rfl)
  rw [lg_entry_eq]
  generalize (lg_sl ([.ref (gR G 32), .int a1]) ++ List.replicate (2 - (lg_sl ([.ref (gR G 32), .int a1])).length) Slot.unset).toArray = ls at hl ⊢
  exact sfX6_refuse C B.returns  ⟨hP, va_S.rf⟩ hl h
def BX6_numberHere_64 (l3 : Int32) (S : St) : Option (Int32 × St) :=
  bd (fX6_refuse l3 S) fun x1 S => ri x1 S
set_option maxHeartbeats 4000000 in
set_option maxRecDepth 20000 in
theorem sBX6_numberHere_64 (C : Cx p s m args meth c cX6_numberHere 4 RX6 G) (hr : meth.sig.returnType = some .int) {l3 : Int32} {S : St} {res : (Int32 × St)} {H : Heap} {locs : List Loc} {ls : Array Slot}  (hd : Dy G S s H locs) (hl : lv_has ls 4 [(0, .ref (gR G 32)), (3, .int l3)]) (h : BX6_numberHere_64 l3 S = some res) : W p l e (rmL 4 0 0) s m args below meth c H locs 0 0 (MQ below (QI G res.1 res.2) args s 0 0 (Ab G)) (F0 m 64 ls []) := by
  unfold BX6_numberHere_64 at h
  have hx := C.1.1
  have hb := C.1.2.1
  refine lv_aload_n hx hb dX6_numberHere_64 rfl (lv_at hl 0 rfl) ?_
  refine lv_iload_n hx hb dX6_numberHere_65 rfl (lv_at hl 1 rfl) ?_
  obtain ⟨x1, S1, hc, h⟩ := bd_some h
  refine R_cVi C hd (ccX6_refuse l G  hc) kX6_94 rfl (by decide) (rfl : kd 32 = 6) hl.1 ⟨by decide, by decide⟩ rfl rfl (Nat.le_of_ble_eq_true rfl) dX6_numberHere_66 ⟨Nat.zero_le _, Nat.zero_le _⟩ (fun H locs hd => ?_)
  generalize S1 = S at h hd
  exact R_iret C hr hd h dX6_numberHere_69
def fX6_numberHere (a1 : Int32) (a2 : Int32) (a3 : Int32) (S : St) : Option (Int32 × St) :=
  (if (S 32 3) = 0 then (if (S 33 3) = 2 then bd (fX7_isTooLong  S) fun x5 S => (if x5 = 0 then (if (S 33 5) < a1 then (BX6_numberHere_64 a3 S) else (if (S 33 5) ≤ a2 then ri (S 33 5) S else (BX6_numberHere_64 a3 S))) else bd (fX6_refuse 2 S) fun x12 S => ri x12 S) else bd (fX6_refuse 1 S) fun x13 S => ri x13 S) else ri 0 S)
set_option maxHeartbeats 4000000 in
set_option maxRecDepth 20000 in
theorem sfX6_numberHere (C : Cx p s m args meth c cX6_numberHere 4 RX6 G) (hr : meth.sig.returnType = some .int) {a1 : Int32} {a2 : Int32} {a3 : Int32} {S : St} {res : (Int32 × St)} {H : Heap} {locs : List Loc} {ls : Array Slot}  (hd : Dy G S s H locs) (hl : lv_has ls 4 [(0, .ref (gR G 32)), (1, .int a1), (2, .int a2), (3, .int a3)]) (h : fX6_numberHere a1 a2 a3 S = some res) : W p l e (rmL 4 0 0) s m args below meth c H locs 0 0 (MQ below (QI G res.1 res.2) args s 0 0 (Ab G)) (F0 m 0 ls []) := by
  unfold fX6_numberHere at h
  have hx := C.1.1
  have hb := C.1.2.1
  refine lv_aload_n hx hb dX6_numberHere_0 rfl (lv_at hl 0 rfl) ?_
  refine gX6_38 C hd (rfl : kd 32 = 6) dX6_numberHere_1 ?_
  refine lv_if_eq (tgt := 9) hx hb dX6_numberHere_4 (by decide) (fun c1 => ?_) (fun c1 => ?_)
  · rw [if_pos c1] at h
    refine lv_aload_n hx hb dX6_numberHere_9 rfl (lv_at hl 0 rfl) ?_
    refine gX6_14 C hd (rfl : kd 32 = 6) (q := 33) rfl dX6_numberHere_10 (fun y2 => ?_)
    refine gX6_49 C hd y2 dX6_numberHere_13 ?_
    refine lv_iconst (v := 2) hx hb dX6_numberHere_16 (by decide) ?_
    refine lv_icmp_eq (tgt := 26) hx hb dX6_numberHere_17 (by decide) (fun c3 => ?_) (fun c3 => ?_)
    · rw [if_pos c3] at h
      refine lv_aload_n hx hb dX6_numberHere_26 rfl (lv_at hl 0 rfl) ?_
      refine gX6_14 C hd (rfl : kd 32 = 6) (q := 33) rfl dX6_numberHere_27 (fun y4 => ?_)
      obtain ⟨x5, S1, hc, h⟩ := bd_some h
      refine R_cVi C hd (ccX7_isTooLong l G  hc) kX6_110 rfl (by decide) y4 hl.1 ⟨by decide, by decide⟩ rfl rfl (Nat.le_of_ble_eq_true rfl) dX6_numberHere_30 ⟨Nat.zero_le _, Nat.zero_le _⟩ (fun H locs hd => ?_)
      generalize S1 = S at h hd
      refine lv_if_eq (tgt := 42) hx hb dX6_numberHere_33 (by decide) (fun c6 => ?_) (fun c6 => ?_)
      · rw [if_pos c6] at h
        refine lv_aload_n hx hb dX6_numberHere_42 rfl (lv_at hl 0 rfl) ?_
        refine gX6_14 C hd (rfl : kd 32 = 6) (q := 33) rfl dX6_numberHere_43 (fun y7 => ?_)
        refine gX6_114 C hd y7 dX6_numberHere_46 ?_
        refine lv_iload_n hx hb dX6_numberHere_49 rfl (lv_at hl 1 rfl) ?_
        refine lv_icmp_lt (tgt := 64) hx hb dX6_numberHere_50 (by decide) (fun c8 => ?_) (fun c8 => ?_)
        · rw [if_pos c8] at h
          exact sBX6_numberHere_64 C hr  hd (lv_sub hl [0, 3] rfl) h
        · rw [if_neg c8] at h
          refine lv_aload_n hx hb dX6_numberHere_53 rfl (lv_at hl 0 rfl) ?_
          refine gX6_14 C hd (rfl : kd 32 = 6) (q := 33) rfl dX6_numberHere_54 (fun y9 => ?_)
          refine gX6_114 C hd y9 dX6_numberHere_57 ?_
          refine lv_iload_n hx hb dX6_numberHere_60 rfl (lv_at hl 2 rfl) ?_
          refine lv_icmp_le (tgt := 70) hx hb dX6_numberHere_61 (by decide) (fun c10 => ?_) (fun c10 => ?_)
          · rw [if_pos c10] at h
            refine lv_aload_n hx hb dX6_numberHere_70 rfl (lv_at hl 0 rfl) ?_
            refine gX6_14 C hd (rfl : kd 32 = 6) (q := 33) rfl dX6_numberHere_71 (fun y11 => ?_)
            refine gX6_114 C hd y11 dX6_numberHere_74 ?_
            exact R_iret C hr hd h dX6_numberHere_77
          · rw [if_neg c10] at h
            exact sBX6_numberHere_64 C hr  hd (lv_sub hl [0, 3] rfl) h
      · rw [if_neg c6] at h
        refine lv_aload_n hx hb dX6_numberHere_36 rfl (lv_at hl 0 rfl) ?_
        refine lv_iconst (v := 2) hx hb dX6_numberHere_37 (by decide) ?_
        obtain ⟨x12, S1, hc, h⟩ := bd_some h
        refine R_cVi C hd (ccX6_refuse l G  hc) kX6_94 rfl (by decide) (rfl : kd 32 = 6) hl.1 ⟨by decide, by decide⟩ rfl rfl (Nat.le_of_ble_eq_true rfl) dX6_numberHere_38 ⟨Nat.zero_le _, Nat.zero_le _⟩ (fun H locs hd => ?_)
        generalize S1 = S at h hd
        exact R_iret C hr hd h dX6_numberHere_41
    · rw [if_neg c3] at h
      refine lv_aload_n hx hb dX6_numberHere_20 rfl (lv_at hl 0 rfl) ?_
      refine lv_iconst (v := 1) hx hb dX6_numberHere_21 (by decide) ?_
      obtain ⟨x13, S1, hc, h⟩ := bd_some h
      refine R_cVi C hd (ccX6_refuse l G  hc) kX6_94 rfl (by decide) (rfl : kd 32 = 6) hl.1 ⟨by decide, by decide⟩ rfl rfl (Nat.le_of_ble_eq_true rfl) dX6_numberHere_22 ⟨Nat.zero_le _, Nat.zero_le _⟩ (fun H locs hd => ?_)
      generalize S1 = S at h hd
      exact R_iret C hr hd h dX6_numberHere_25
  · rw [if_neg c1] at h
    refine lv_iconst (v := 0) hx hb dX6_numberHere_7 (by decide) ?_
    exact R_iret C hr hd h dX6_numberHere_8
set_option maxRecDepth 20000 in
theorem ccX6_numberHere (l : Launch) (G : Gt) {a1 : Int32} {a2 : Int32} {a3 : Int32} {S : St} {res : (Int32 × St)}  (h : fX6_numberHere a1 a2 a3 S = some res) : Met l yX6_numberHere (wm yX6_numberHere cX6_numberHere 4 (some .int)) (rmL 4 0 0) (PcW G S [.ref (gR G 32), .int a1, .int a2, .int a3]) (QI G res.1 res.2) 0 0 (Ab G) := by
  refine Met.ofW (cc := cX6_numberHere) (maxL := 4) (ret := (some .int)) (by decide) rfl ?_
  intro p e s m args below meth c s₁ B hml hv
  obtain ⟨rfl, hK, hP⟩ := hv
  have C : Cx p s m _ meth c cX6_numberHere 4 RX6 G := ⟨⟨B.exec, B.bytes, hml, findClass_of_methodNamed B.named, fun w hw => atoms_spec (ws := wm yX6_numberHere cX6_numberHere 4 (some .int)) B.pre w (List.mem_cons_of_mem _ hw)⟩, B.notSynchronized, hK⟩
  have hl := lv_entry ([.ref (gR G 32), .int a1, .int a2, .int a3]) (n := 4) (Nat.le_of_ble_eq_true rfl)
  rw [lg_entry_eq]
  generalize (lg_sl ([.ref (gR G 32), .int a1, .int a2, .int a3]) ++ List.replicate (4 - (lg_sl ([.ref (gR G 32), .int a1, .int a2, .int a3])).length) Slot.unset).toArray = ls at hl ⊢
  exact sfX6_numberHere C B.returns  ⟨hP, va_S.rf⟩ hl h
def fX6_pass  (S : St) : Option St :=
  (if (S 32 3) = 0 then bv (fX7_advance  S) fun S => some S else some S)
set_option maxHeartbeats 4000000 in
set_option maxRecDepth 20000 in
theorem sfX6_pass (C : Cx p s m args meth c cX6_pass 1 RX6 G) (hr : meth.sig.returnType = none)  {S : St} {res : St} {H : Heap} {locs : List Loc} {ls : Array Slot}  (hd : Dy G S s H locs) (hl : lv_has ls 1 [(0, .ref (gR G 32))]) (h : fX6_pass  S = some res) : W p l e (rmL 5 0 0) s m args below meth c H locs 0 0 (MQ below (QV G res) args s 0 0 (Ab G)) (F0 m 0 ls []) := by
  unfold fX6_pass at h
  have hx := C.1.1
  have hb := C.1.2.1
  refine lv_aload_n hx hb dX6_pass_0 rfl (lv_at hl 0 rfl) ?_
  refine gX6_38 C hd (rfl : kd 32 = 6) dX6_pass_1 ?_
  refine lv_if_ne (tgt := 14) hx hb dX6_pass_4 (by decide) (fun c1 => ?_) (fun c1 => ?_)
  · rw [if_neg c1] at h
    exact R_vret C hr hd h dX6_pass_14
  · rw [if_pos c1] at h
    refine lv_aload_n hx hb dX6_pass_7 rfl (lv_at hl 0 rfl) ?_
    refine gX6_14 C hd (rfl : kd 32 = 6) (q := 33) rfl dX6_pass_8 (fun y2 => ?_)
    obtain ⟨S1, hc, h⟩ := bv_some h
    refine R_cVv C hd (ccX7_advance l G  hc) kX6_104 rfl (by decide) y2 hl.1 ⟨by decide, by decide⟩ rfl rfl (Nat.le_of_ble_eq_true rfl) dX6_pass_11 ⟨Nat.zero_le _, Nat.zero_le _⟩ (fun H locs hd => ?_)
    generalize S1 = S at h hd
    exact R_vret C hr hd h dX6_pass_14
set_option maxRecDepth 20000 in
theorem ccX6_pass (l : Launch) (G : Gt)  {S : St} {res : St}  (h : fX6_pass  S = some res) : Met l yX6_pass (wm yX6_pass cX6_pass 1 (none)) (rmL 5 0 0) (PcW G S [.ref (gR G 32)]) (QV G res) 0 0 (Ab G) := by
  refine Met.ofW (cc := cX6_pass) (maxL := 1) (ret := none) (by decide) rfl ?_
  intro p e s m args below meth c s₁ B hml hv
  obtain ⟨rfl, hK, hP⟩ := hv
  have C : Cx p s m _ meth c cX6_pass 1 RX6 G := ⟨⟨B.exec, B.bytes, hml, findClass_of_methodNamed B.named, fun w hw => atoms_spec (ws := wm yX6_pass cX6_pass 1 (none)) B.pre w (List.mem_cons_of_mem _ hw)⟩, B.notSynchronized, hK⟩
  have hl := lv_entry ([.ref (gR G 32)]) (n := 1) (Nat.le_of_ble_eq_true rfl)
  rw [lg_entry_eq]
  generalize (lg_sl ([.ref (gR G 32)]) ++ List.replicate (1 - (lg_sl ([.ref (gR G 32)])).length) Slot.unset).toArray = ls at hl ⊢
  exact sfX6_pass C B.returns  ⟨hP, va_S.rf⟩ hl h
def BX6_passEnd_25  (S : St) : Option St :=
  bv (fX6_pass  S) fun S => some S
set_option maxHeartbeats 4000000 in
set_option maxRecDepth 20000 in
theorem sBX6_passEnd_25 (C : Cx p s m args meth c cX6_passEnd 1 RX6 G) (hr : meth.sig.returnType = none)  {S : St} {res : St} {H : Heap} {locs : List Loc} {ls : Array Slot}  (hd : Dy G S s H locs) (hl : lv_has ls 1 [(0, .ref (gR G 32))]) (h : BX6_passEnd_25  S = some res) : W p l e (rmL 6 0 0) s m args below meth c H locs 0 0 (MQ below (QV G res) args s 0 0 (Ab G)) (F0 m 25 ls []) := by
  unfold BX6_passEnd_25 at h
  have hx := C.1.1
  have hb := C.1.2.1
  refine lv_aload_n hx hb dX6_passEnd_25 rfl (lv_at hl 0 rfl) ?_
  obtain ⟨S1, hc, h⟩ := bv_some h
  refine R_cVv C hd (ccX6_pass l G  hc) kX6_107 rfl (by decide) (rfl : kd 32 = 6) hl.1 ⟨by decide, by decide⟩ rfl rfl (Nat.le_of_ble_eq_true rfl) dX6_passEnd_26 ⟨Nat.zero_le _, Nat.zero_le _⟩ (fun H locs hd => ?_)
  generalize S1 = S at h hd
  exact R_vret C hr hd h dX6_passEnd_29
def fX6_passEnd  (S : St) : Option St :=
  (if (S 32 3) = 0 then (if (S 33 3) = 59 then (BX6_passEnd_25  S) else bd (fX6_refuse 1 S) fun x4 S => (BX6_passEnd_25  S)) else (BX6_passEnd_25  S))
set_option maxHeartbeats 4000000 in
set_option maxRecDepth 20000 in
theorem sfX6_passEnd (C : Cx p s m args meth c cX6_passEnd 1 RX6 G) (hr : meth.sig.returnType = none)  {S : St} {res : St} {H : Heap} {locs : List Loc} {ls : Array Slot}  (hd : Dy G S s H locs) (hl : lv_has ls 1 [(0, .ref (gR G 32))]) (h : fX6_passEnd  S = some res) : W p l e (rmL 6 0 0) s m args below meth c H locs 0 0 (MQ below (QV G res) args s 0 0 (Ab G)) (F0 m 0 ls []) := by
  unfold fX6_passEnd at h
  have hx := C.1.1
  have hb := C.1.2.1
  refine lv_aload_n hx hb dX6_passEnd_0 rfl (lv_at hl 0 rfl) ?_
  refine gX6_38 C hd (rfl : kd 32 = 6) dX6_passEnd_1 ?_
  refine lv_if_ne (tgt := 25) hx hb dX6_passEnd_4 (by decide) (fun c1 => ?_) (fun c1 => ?_)
  · rw [if_neg c1] at h
    exact sBX6_passEnd_25 C hr  hd (lv_sub hl [0] rfl) h
  · rw [if_pos c1] at h
    refine lv_aload_n hx hb dX6_passEnd_7 rfl (lv_at hl 0 rfl) ?_
    refine gX6_14 C hd (rfl : kd 32 = 6) (q := 33) rfl dX6_passEnd_8 (fun y2 => ?_)
    refine gX6_49 C hd y2 dX6_passEnd_11 ?_
    refine lv_bipush (v := 59) hx hb dX6_passEnd_14 (by decide) ?_
    refine lv_icmp_eq (tgt := 25) hx hb dX6_passEnd_16 (by decide) (fun c3 => ?_) (fun c3 => ?_)
    · rw [if_pos c3] at h
      exact sBX6_passEnd_25 C hr  hd (lv_sub hl [0] rfl) h
    · rw [if_neg c3] at h
      refine lv_aload_n hx hb dX6_passEnd_19 rfl (lv_at hl 0 rfl) ?_
      refine lv_iconst (v := 1) hx hb dX6_passEnd_20 (by decide) ?_
      obtain ⟨x4, S1, hc, h⟩ := bd_some h
      refine R_cVi C hd (ccX6_refuse l G  hc) kX6_94 rfl (by decide) (rfl : kd 32 = 6) hl.1 ⟨by decide, by decide⟩ rfl rfl (Nat.le_of_ble_eq_true rfl) dX6_passEnd_21 ⟨Nat.zero_le _, Nat.zero_le _⟩ (fun H locs hd => ?_)
      generalize S1 = S at h hd
      refine lv_pop hx hb dX6_passEnd_24 rfl ?_
      exact sBX6_passEnd_25 C hr  hd (lv_sub hl [0] rfl) h
set_option maxRecDepth 20000 in
theorem ccX6_passEnd (l : Launch) (G : Gt)  {S : St} {res : St}  (h : fX6_passEnd  S = some res) : Met l yX6_passEnd (wm yX6_passEnd cX6_passEnd 1 (none)) (rmL 6 0 0) (PcW G S [.ref (gR G 32)]) (QV G res) 0 0 (Ab G) := by
  refine Met.ofW (cc := cX6_passEnd) (maxL := 1) (ret := none) (by decide) rfl ?_
  intro p e s m args below meth c s₁ B hml hv
  obtain ⟨rfl, hK, hP⟩ := hv
  have C : Cx p s m _ meth c cX6_passEnd 1 RX6 G := ⟨⟨B.exec, B.bytes, hml, findClass_of_methodNamed B.named, fun w hw => atoms_spec (ws := wm yX6_passEnd cX6_passEnd 1 (none)) B.pre w (List.mem_cons_of_mem _ hw)⟩, B.notSynchronized, hK⟩
  have hl := lv_entry ([.ref (gR G 32)]) (n := 1) (Nat.le_of_ble_eq_true rfl)
  rw [lg_entry_eq]
  generalize (lg_sl ([.ref (gR G 32)]) ++ List.replicate (1 - (lg_sl ([.ref (gR G 32)])).length) Slot.unset).toArray = ls at hl ⊢
  exact sfX6_passEnd C B.returns  ⟨hP, va_S.rf⟩ hl h
def BX6_fieldLine_127 (l1 : Int32) (l2 : Int32) (S : St) : Option St :=
  bv (fX6_passEnd  S) fun S => (if (S 32 3) = 0 then gm S 32 2 8 fun q2 => wr S (sr q2 4) l1 l2 fun S => gm S 32 2 8 fun q4 => pf S q4 0 ((S q4 0) + 1) fun S => some S else some S)
set_option maxHeartbeats 4000000 in
set_option maxRecDepth 20000 in
theorem sBX6_fieldLine_127 (C : Cx p s m args meth c cX6_fieldLine 4 RX6 G) (hr : meth.sig.returnType = none) {l1 : Int32} {l2 : Int32} {S : St} {res : St} {H : Heap} {locs : List Loc} {ls : Array Slot}  (hd : Dy G S s H locs) (hl : lv_has ls 4 [(0, .ref (gR G 32)), (1, .int l1), (2, .int l2)]) (h : BX6_fieldLine_127 l1 l2 S = some res) : W p l e (rmL 7 0 0) s m args below meth c H locs 0 0 (MQ below (QV G res) args s 0 0 (Ab G)) (F0 m 127 ls []) := by
  unfold BX6_fieldLine_127 at h
  have hx := C.1.1
  have hb := C.1.2.1
  refine lv_aload_n hx hb dX6_fieldLine_127 rfl (lv_at hl 0 rfl) ?_
  obtain ⟨S1, hc, h⟩ := bv_some h
  refine R_cVv C hd (ccX6_passEnd l G  hc) kX6_134 rfl (by decide) (rfl : kd 32 = 6) hl.1 ⟨by decide, by decide⟩ rfl rfl (Nat.le_of_ble_eq_true rfl) dX6_fieldLine_128 ⟨Nat.zero_le _, Nat.zero_le _⟩ (fun H locs hd => ?_)
  generalize S1 = S at h hd
  refine lv_aload_n hx hb dX6_fieldLine_131 rfl (lv_at hl 0 rfl) ?_
  refine gX6_38 C hd (rfl : kd 32 = 6) dX6_fieldLine_132 ?_
  refine lv_if_ne (tgt := 161) hx hb dX6_fieldLine_135 (by decide) (fun c1 => ?_) (fun c1 => ?_)
  · rw [if_neg c1] at h
    exact R_vret C hr hd h dX6_fieldLine_161
  · rw [if_pos c1] at h
    refine lv_aload_n hx hb dX6_fieldLine_138 rfl (lv_at hl 0 rfl) ?_
    refine gX6_29 C hd (rfl : kd 32 = 6) h dX6_fieldLine_139 (fun q2 kq2 h => ?_)
    refine gX6_137 C hd kq2 (q := sr q2 4) rfl dX6_fieldLine_142 (fun y3 => ?_)
    refine lv_iload_n hx hb dX6_fieldLine_145 rfl (lv_at hl 1 rfl) ?_
    refine lv_iload_n hx hb dX6_fieldLine_146 rfl (lv_at hl 2 rfl) ?_
    refine R_iast C hd y3 h dX6_fieldLine_147 (fun S H locs hd h => ?_)
    refine lv_aload_n hx hb dX6_fieldLine_148 rfl (lv_at hl 0 rfl) ?_
    refine gX6_29 C hd (rfl : kd 32 = 6) h dX6_fieldLine_149 (fun q4 kq4 h => ?_)
    refine lv_dup hx hb dX6_fieldLine_152 rfl ?_
    refine gX6_117 C hd kq4 dX6_fieldLine_153 ?_
    refine lv_iconst (v := 1) hx hb dX6_fieldLine_156 (by decide) ?_
    refine lv_iadd hx hb dX6_fieldLine_157 ?_
    refine pX6_117 C hd kq4 h dX6_fieldLine_158 (fun S H locs hd h => ?_)
    exact R_vret C hr hd h dX6_fieldLine_161
def BX6_fieldLine_79 (r50 : Int32 → Int32 → Int32 → St → Option St) (l1 : Int32) (l2 : Int32) (l3 : Int32) (S : St) : Option St :=
  (if l3 = 6 then bd (fX6_refuse 2 S) fun x7 S => some S else gm S 32 2 8 fun q2 => bd (fX6_numberHere 0 9 2 S) fun x4 S => wr S (sr q2 5) ((l1 * 6) + l3) x4 fun S => bv (fX6_pass  S) fun S => vl (l2 + 1) fun x5 => vl (l3 + 1) fun x6 => (r50 l1 x5 x6 S))
set_option maxHeartbeats 4000000 in
set_option maxRecDepth 20000 in
theorem sBX6_fieldLine_79 (C : Cx p s m args meth c cX6_fieldLine 4 RX6 G) (hr : meth.sig.returnType = none) {r50 : Int32 → Int32 → Int32 → St → Option St} (hr50 : ∀ (l1 : Int32) (l2 : Int32) (l3 : Int32) (S : St) (res : St) (H : Heap) (locs : List Loc) (ls : Array Slot), Dy G S s H locs → lv_has ls 4 [(0, .ref (gR G 32)), (1, .int l1), (2, .int l2), (3, .int l3)] → r50 l1 l2 l3 S = some res → W p l e (rmL 7 0 0) s m args below meth c H locs 0 0 (MQ below (QV G res) args s 0 0 (Ab G)) (F0 m 50 ls [])) {l1 : Int32} {l2 : Int32} {l3 : Int32} {S : St} {res : St} {H : Heap} {locs : List Loc} {ls : Array Slot}  (hd : Dy G S s H locs) (hl : lv_has ls 4 [(0, .ref (gR G 32)), (1, .int l1), (2, .int l2), (3, .int l3)]) (h : BX6_fieldLine_79 r50 l1 l2 l3 S = some res) : W p l e (rmL 7 0 0) s m args below meth c H locs 0 0 (MQ below (QV G res) args s 0 0 (Ab G)) (F0 m 79 ls []) := by
  unfold BX6_fieldLine_79 at h
  have hx := C.1.1
  have hb := C.1.2.1
  refine lv_iload_n hx hb dX6_fieldLine_79 rfl (lv_at hl 3 rfl) ?_
  refine lv_bipush (v := 6) hx hb dX6_fieldLine_80 (by decide) ?_
  refine lv_icmp_ne (tgt := 92) hx hb dX6_fieldLine_82 (by decide) (fun c1 => ?_) (fun c1 => ?_)
  · rw [if_neg c1] at h
    refine lv_aload_n hx hb dX6_fieldLine_92 rfl (lv_at hl 0 rfl) ?_
    refine gX6_29 C hd (rfl : kd 32 = 6) h dX6_fieldLine_93 (fun q2 kq2 h => ?_)
    refine gX6_131 C hd kq2 (q := sr q2 5) rfl dX6_fieldLine_96 (fun y3 => ?_)
    refine lv_iload_n hx hb dX6_fieldLine_99 rfl (lv_at hl 1 rfl) ?_
    refine lv_bipush (v := 6) hx hb dX6_fieldLine_100 (by decide) ?_
    refine lv_imul hx hb dX6_fieldLine_102 ?_
    refine lv_iload_n hx hb dX6_fieldLine_103 rfl (lv_at hl 3 rfl) ?_
    refine lv_iadd hx hb dX6_fieldLine_104 ?_
    refine lv_aload_n hx hb dX6_fieldLine_105 rfl (lv_at hl 0 rfl) ?_
    refine lv_iconst (v := 0) hx hb dX6_fieldLine_106 (by decide) ?_
    refine lv_bipush (v := 9) hx hb dX6_fieldLine_107 (by decide) ?_
    refine lv_iconst (v := 2) hx hb dX6_fieldLine_109 (by decide) ?_
    obtain ⟨x4, S1, hc, h⟩ := bd_some h
    refine R_cVi C hd (ccX6_numberHere l G  hc) kX6_120 rfl (by decide) (rfl : kd 32 = 6) hl.1 ⟨by decide, by decide⟩ rfl rfl (Nat.le_of_ble_eq_true rfl) dX6_fieldLine_110 ⟨Nat.zero_le _, Nat.zero_le _⟩ (fun H locs hd => ?_)
    generalize S1 = S at h hd
    refine R_iast C hd y3 h dX6_fieldLine_113 (fun S H locs hd h => ?_)
    refine lv_aload_n hx hb dX6_fieldLine_114 rfl (lv_at hl 0 rfl) ?_
    obtain ⟨S1, hc, h⟩ := bv_some h
    refine R_cVv C hd (ccX6_pass l G  hc) kX6_107 rfl (by decide) (rfl : kd 32 = 6) hl.1 ⟨by decide, by decide⟩ rfl rfl (Nat.le_of_ble_eq_true rfl) dX6_fieldLine_115 ⟨Nat.zero_le _, Nat.zero_le _⟩ (fun H locs hd => ?_)
    generalize S1 = S at h hd
    refine R_vi h (fun x5 ex5 h => ?_)
    refine lv_iinc (v := x5) (lv' := [(2, .int x5), (0, .ref (gR G 32)), (1, .int l1), (3, .int l3)]) hx hb dX6_fieldLine_118 hl (k := 2) rfl (by rw [ex5]; rfl) (by decide) rfl (fun ls hl => ?_)
    refine R_vi h (fun x6 ex6 h => ?_)
    refine lv_iinc (v := x6) (lv' := [(3, .int x6), (2, .int x5), (0, .ref (gR G 32)), (1, .int l1)]) hx hb dX6_fieldLine_121 hl (k := 3) rfl (by rw [ex6]; rfl) (by decide) rfl (fun ls hl => ?_)
    refine lv_goto (tgt := 50) hx hb dX6_fieldLine_124 (by decide) ?_
    exact hr50 l1 x5 x6 _ _ _ _ _  hd (lv_sub hl [2, 3, 1, 0] rfl) h
  · rw [if_pos c1] at h
    refine lv_aload_n hx hb dX6_fieldLine_85 rfl (lv_at hl 0 rfl) ?_
    refine lv_iconst (v := 2) hx hb dX6_fieldLine_86 (by decide) ?_
    obtain ⟨x7, S1, hc, h⟩ := bd_some h
    refine R_cVi C hd (ccX6_refuse l G  hc) kX6_94 rfl (by decide) (rfl : kd 32 = 6) hl.1 ⟨by decide, by decide⟩ rfl rfl (Nat.le_of_ble_eq_true rfl) dX6_fieldLine_87 ⟨Nat.zero_le _, Nat.zero_le _⟩ (fun H locs hd => ?_)
    generalize S1 = S at h hd
    refine lv_pop hx hb dX6_fieldLine_90 rfl ?_
    exact R_vret C hr hd h dX6_fieldLine_91
def KX6_fieldLine_50 (r50 : Int32 → Int32 → Int32 → St → Option St) (l1 : Int32) (l2 : Int32) (l3 : Int32) (S : St) : Option St :=
  (if 6 < l3 then (BX6_fieldLine_127 l1 l2 S) else (if (S 32 3) = 0 then (if l3 < 2 then (BX6_fieldLine_79 r50 l1 l2 l3 S) else (if (S 33 3) = 2 then (BX6_fieldLine_79 r50 l1 l2 l3 S) else (BX6_fieldLine_127 l1 l2 S))) else (BX6_fieldLine_127 l1 l2 S)))
set_option maxHeartbeats 4000000 in
set_option maxRecDepth 20000 in
theorem sKX6_fieldLine_50 (C : Cx p s m args meth c cX6_fieldLine 4 RX6 G) (hr : meth.sig.returnType = none) {r50 : Int32 → Int32 → Int32 → St → Option St} (hr50 : ∀ (l1 : Int32) (l2 : Int32) (l3 : Int32) (S : St) (res : St) (H : Heap) (locs : List Loc) (ls : Array Slot), Dy G S s H locs → lv_has ls 4 [(0, .ref (gR G 32)), (1, .int l1), (2, .int l2), (3, .int l3)] → r50 l1 l2 l3 S = some res → W p l e (rmL 7 0 0) s m args below meth c H locs 0 0 (MQ below (QV G res) args s 0 0 (Ab G)) (F0 m 50 ls [])) {l1 : Int32} {l2 : Int32} {l3 : Int32} {S : St} {res : St} {H : Heap} {locs : List Loc} {ls : Array Slot}  (hd : Dy G S s H locs) (hl : lv_has ls 4 [(0, .ref (gR G 32)), (1, .int l1), (2, .int l2), (3, .int l3)]) (h : KX6_fieldLine_50 r50 l1 l2 l3 S = some res) : W p l e (rmL 7 0 0) s m args below meth c H locs 0 0 (MQ below (QV G res) args s 0 0 (Ab G)) (F0 m 50 ls []) := by
  unfold KX6_fieldLine_50 at h
  have hx := C.1.1
  have hb := C.1.2.1
  refine lv_iload_n hx hb dX6_fieldLine_50 rfl (lv_at hl 3 rfl) ?_
  refine lv_bipush (v := 6) hx hb dX6_fieldLine_51 (by decide) ?_
  refine lv_icmp_gt (tgt := 127) hx hb dX6_fieldLine_53 (by decide) (fun c1 => ?_) (fun c1 => ?_)
  · rw [if_pos c1] at h
    exact sBX6_fieldLine_127 C hr  hd (lv_sub hl [0, 1, 2] rfl) h
  · rw [if_neg c1] at h
    refine lv_aload_n hx hb dX6_fieldLine_56 rfl (lv_at hl 0 rfl) ?_
    refine gX6_38 C hd (rfl : kd 32 = 6) dX6_fieldLine_57 ?_
    refine lv_if_ne (tgt := 127) hx hb dX6_fieldLine_60 (by decide) (fun c2 => ?_) (fun c2 => ?_)
    · rw [if_neg c2] at h
      exact sBX6_fieldLine_127 C hr  hd (lv_sub hl [0, 1, 2] rfl) h
    · rw [if_pos c2] at h
      refine lv_iload_n hx hb dX6_fieldLine_63 rfl (lv_at hl 3 rfl) ?_
      refine lv_iconst (v := 2) hx hb dX6_fieldLine_64 (by decide) ?_
      refine lv_icmp_lt (tgt := 79) hx hb dX6_fieldLine_65 (by decide) (fun c3 => ?_) (fun c3 => ?_)
      · rw [if_pos c3] at h
        exact sBX6_fieldLine_79 C hr hr50  hd (lv_sub hl [0, 1, 2, 3] rfl) h
      · rw [if_neg c3] at h
        refine lv_aload_n hx hb dX6_fieldLine_68 rfl (lv_at hl 0 rfl) ?_
        refine gX6_14 C hd (rfl : kd 32 = 6) (q := 33) rfl dX6_fieldLine_69 (fun y4 => ?_)
        refine gX6_49 C hd y4 dX6_fieldLine_72 ?_
        refine lv_iconst (v := 2) hx hb dX6_fieldLine_75 (by decide) ?_
        refine lv_icmp_ne (tgt := 127) hx hb dX6_fieldLine_76 (by decide) (fun c5 => ?_) (fun c5 => ?_)
        · rw [if_neg c5] at h
          exact sBX6_fieldLine_127 C hr  hd (lv_sub hl [0, 1, 2] rfl) h
        · rw [if_pos c5] at h
          exact sBX6_fieldLine_79 C hr hr50  hd (lv_sub hl [0, 1, 2, 3] rfl) h
def LX6_fieldLine_50 : Nat → Int32 → Int32 → Int32 → St → Option St
  | 0 => fun _ _ _ _ => none
  | n + 1 => fun l1 l2 l3 S => KX6_fieldLine_50 (LX6_fieldLine_50 n) l1 l2 l3 S
theorem sLX6_fieldLine_50 (C : Cx p s m args meth c cX6_fieldLine 4 RX6 G) (hr : meth.sig.returnType = none) : ∀ (n : Nat) (l1 : Int32) (l2 : Int32) (l3 : Int32) (S : St) (res : St) (H : Heap) (locs : List Loc) (ls : Array Slot), Dy G S s H locs → lv_has ls 4 [(0, .ref (gR G 32)), (1, .int l1), (2, .int l2), (3, .int l3)] → LX6_fieldLine_50 n l1 l2 l3 S = some res → W p l e (rmL 7 0 0) s m args below meth c H locs 0 0 (MQ below (QV G res) args s 0 0 (Ab G)) (F0 m 50 ls []) := by
  intro n
  induction n with
  | zero => intro l1 l2 l3 S res H locs ls  hd hl h; cases h
  | succ n ih =>
    intro l1 l2 l3 S res H locs ls  hd hl h
    exact sKX6_fieldLine_50 C hr ih  hd hl h
def fX6_fieldLine  (S : St) : Option St :=
  gm S 32 2 8 fun q1 => vl (S q1 0) fun x2 => (if x2 < 8 then bv (fX6_pass  S) fun S => gm S 32 2 8 fun q4 => bd (fX6_numberHere 1 99 2 S) fun x6 S => wr S (sr q4 3) x2 x6 fun S => bv (fX6_pass  S) fun S => (LX6_fieldLine_50 FU x2 0 0 S) else bd (fX6_refuse 2 S) fun x7 S => some S)
set_option maxHeartbeats 4000000 in
set_option maxRecDepth 20000 in
theorem sfX6_fieldLine (C : Cx p s m args meth c cX6_fieldLine 4 RX6 G) (hr : meth.sig.returnType = none)  {S : St} {res : St} {H : Heap} {locs : List Loc} {ls : Array Slot}  (hd : Dy G S s H locs) (hl : lv_has ls 4 [(0, .ref (gR G 32))]) (h : fX6_fieldLine  S = some res) : W p l e (rmL 7 0 0) s m args below meth c H locs 0 0 (MQ below (QV G res) args s 0 0 (Ab G)) (F0 m 0 ls []) := by
  unfold fX6_fieldLine at h
  have hx := C.1.1
  have hb := C.1.2.1
  refine lv_aload_n hx hb dX6_fieldLine_0 rfl (lv_at hl 0 rfl) ?_
  refine gX6_29 C hd (rfl : kd 32 = 6) h dX6_fieldLine_1 (fun q1 kq1 h => ?_)
  refine gX6_117 C hd kq1 dX6_fieldLine_4 ?_
  refine R_vl h (fun x2 h => ?_)
  refine lv_istore_n (lv' := [(1, .int x2), (0, .ref (gR G 32))]) hx hb dX6_fieldLine_7 rfl hl (by decide) rfl (fun ls hl => ?_)
  refine lv_iload_n hx hb dX6_fieldLine_8 rfl (lv_at hl 0 rfl) ?_
  refine lv_bipush (v := 8) hx hb dX6_fieldLine_9 (by decide) ?_
  refine lv_icmp_lt (tgt := 21) hx hb dX6_fieldLine_11 (by decide) (fun c3 => ?_) (fun c3 => ?_)
  · rw [if_pos c3] at h
    refine lv_aload_n hx hb dX6_fieldLine_21 rfl (lv_at hl 1 rfl) ?_
    obtain ⟨S1, hc, h⟩ := bv_some h
    refine R_cVv C hd (ccX6_pass l G  hc) kX6_107 rfl (by decide) (rfl : kd 32 = 6) hl.1 ⟨by decide, by decide⟩ rfl rfl (Nat.le_of_ble_eq_true rfl) dX6_fieldLine_22 ⟨Nat.zero_le _, Nat.zero_le _⟩ (fun H locs hd => ?_)
    generalize S1 = S at h hd
    refine lv_aload_n hx hb dX6_fieldLine_25 rfl (lv_at hl 1 rfl) ?_
    refine gX6_29 C hd (rfl : kd 32 = 6) h dX6_fieldLine_26 (fun q4 kq4 h => ?_)
    refine gX6_127 C hd kq4 (q := sr q4 3) rfl dX6_fieldLine_29 (fun y5 => ?_)
    refine lv_iload_n hx hb dX6_fieldLine_32 rfl (lv_at hl 0 rfl) ?_
    refine lv_aload_n hx hb dX6_fieldLine_33 rfl (lv_at hl 1 rfl) ?_
    refine lv_iconst (v := 1) hx hb dX6_fieldLine_34 (by decide) ?_
    refine lv_bipush (v := 99) hx hb dX6_fieldLine_35 (by decide) ?_
    refine lv_iconst (v := 2) hx hb dX6_fieldLine_37 (by decide) ?_
    obtain ⟨x6, S1, hc, h⟩ := bd_some h
    refine R_cVi C hd (ccX6_numberHere l G  hc) kX6_120 rfl (by decide) (rfl : kd 32 = 6) hl.1 ⟨by decide, by decide⟩ rfl rfl (Nat.le_of_ble_eq_true rfl) dX6_fieldLine_38 ⟨Nat.zero_le _, Nat.zero_le _⟩ (fun H locs hd => ?_)
    generalize S1 = S at h hd
    refine R_iast C hd y5 h dX6_fieldLine_41 (fun S H locs hd h => ?_)
    refine lv_aload_n hx hb dX6_fieldLine_42 rfl (lv_at hl 1 rfl) ?_
    obtain ⟨S1, hc, h⟩ := bv_some h
    refine R_cVv C hd (ccX6_pass l G  hc) kX6_107 rfl (by decide) (rfl : kd 32 = 6) hl.1 ⟨by decide, by decide⟩ rfl rfl (Nat.le_of_ble_eq_true rfl) dX6_fieldLine_43 ⟨Nat.zero_le _, Nat.zero_le _⟩ (fun H locs hd => ?_)
    generalize S1 = S at h hd
    refine lv_iconst (v := 0) hx hb dX6_fieldLine_46 (by decide) ?_
    refine lv_istore_n (lv' := [(2, .int 0), (1, .int x2), (0, .ref (gR G 32))]) hx hb dX6_fieldLine_47 rfl hl (by decide) rfl (fun ls hl => ?_)
    refine lv_iconst (v := 0) hx hb dX6_fieldLine_48 (by decide) ?_
    refine lv_istore_n (lv' := [(3, .int 0), (2, .int 0), (1, .int x2), (0, .ref (gR G 32))]) hx hb dX6_fieldLine_49 rfl hl (by decide) rfl (fun ls hl => ?_)
    exact sLX6_fieldLine_50 C hr _ x2 0 0 _ _ _ _ _  hd (lv_sub hl [3, 2, 1, 0] rfl) h
  · rw [if_neg c3] at h
    refine lv_aload_n hx hb dX6_fieldLine_14 rfl (lv_at hl 1 rfl) ?_
    refine lv_iconst (v := 2) hx hb dX6_fieldLine_15 (by decide) ?_
    obtain ⟨x7, S1, hc, h⟩ := bd_some h
    refine R_cVi C hd (ccX6_refuse l G  hc) kX6_94 rfl (by decide) (rfl : kd 32 = 6) hl.1 ⟨by decide, by decide⟩ rfl rfl (Nat.le_of_ble_eq_true rfl) dX6_fieldLine_16 ⟨Nat.zero_le _, Nat.zero_le _⟩ (fun H locs hd => ?_)
    generalize S1 = S at h hd
    refine lv_pop hx hb dX6_fieldLine_19 rfl ?_
    exact R_vret C hr hd h dX6_fieldLine_20
set_option maxRecDepth 20000 in
theorem ccX6_fieldLine (l : Launch) (G : Gt)  {S : St} {res : St}  (h : fX6_fieldLine  S = some res) : Met l yX6_fieldLine (wm yX6_fieldLine cX6_fieldLine 4 (none)) (rmL 7 0 0) (PcW G S [.ref (gR G 32)]) (QV G res) 0 0 (Ab G) := by
  refine Met.ofW (cc := cX6_fieldLine) (maxL := 4) (ret := none) (by decide) rfl ?_
  intro p e s m args below meth c s₁ B hml hv
  obtain ⟨rfl, hK, hP⟩ := hv
  have C : Cx p s m _ meth c cX6_fieldLine 4 RX6 G := ⟨⟨B.exec, B.bytes, hml, findClass_of_methodNamed B.named, fun w hw => atoms_spec (ws := wm yX6_fieldLine cX6_fieldLine 4 (none)) B.pre w (List.mem_cons_of_mem _ hw)⟩, B.notSynchronized, hK⟩
  have hl := lv_entry ([.ref (gR G 32)]) (n := 4) (Nat.le_of_ble_eq_true rfl)
  rw [lg_entry_eq]
  generalize (lg_sl ([.ref (gR G 32)]) ++ List.replicate (4 - (lg_sl ([.ref (gR G 32)])).length) Slot.unset).toArray = ls at hl ⊢
  exact sfX6_fieldLine C B.returns  ⟨hP, va_S.rf⟩ hl h
def fX6_fieldHere  (S : St) : Option (Int32 × St) :=
  gm S 32 2 8 fun q1 => bd (fX6_numberHere 0 ((S q1 0) - 1) 3 S) fun x2 S => ri x2 S
set_option maxHeartbeats 4000000 in
set_option maxRecDepth 20000 in
theorem sfX6_fieldHere (C : Cx p s m args meth c cX6_fieldHere 1 RX6 G) (hr : meth.sig.returnType = some .int)  {S : St} {res : (Int32 × St)} {H : Heap} {locs : List Loc} {ls : Array Slot}  (hd : Dy G S s H locs) (hl : lv_has ls 1 [(0, .ref (gR G 32))]) (h : fX6_fieldHere  S = some res) : W p l e (rmL 5 0 0) s m args below meth c H locs 0 0 (MQ below (QI G res.1 res.2) args s 0 0 (Ab G)) (F0 m 0 ls []) := by
  unfold fX6_fieldHere at h
  have hx := C.1.1
  have hb := C.1.2.1
  refine lv_aload_n hx hb dX6_fieldHere_0 rfl (lv_at hl 0 rfl) ?_
  refine lv_iconst (v := 0) hx hb dX6_fieldHere_1 (by decide) ?_
  refine lv_aload_n hx hb dX6_fieldHere_2 rfl (lv_at hl 0 rfl) ?_
  refine gX6_29 C hd (rfl : kd 32 = 6) h dX6_fieldHere_3 (fun q1 kq1 h => ?_)
  refine gX6_117 C hd kq1 dX6_fieldHere_6 ?_
  refine lv_iconst (v := 1) hx hb dX6_fieldHere_9 (by decide) ?_
  refine lv_isub hx hb dX6_fieldHere_10 ?_
  refine lv_iconst (v := 3) hx hb dX6_fieldHere_11 (by decide) ?_
  obtain ⟨x2, S1, hc, h⟩ := bd_some h
  refine R_cVi C hd (ccX6_numberHere l G  hc) kX6_120 rfl (by decide) (rfl : kd 32 = 6) hl.1 ⟨by decide, by decide⟩ rfl rfl (Nat.le_of_ble_eq_true rfl) dX6_fieldHere_12 ⟨Nat.zero_le _, Nat.zero_le _⟩ (fun H locs hd => ?_)
  generalize S1 = S at h hd
  exact R_iret C hr hd h dX6_fieldHere_15
set_option maxRecDepth 20000 in
theorem ccX6_fieldHere (l : Launch) (G : Gt)  {S : St} {res : (Int32 × St)}  (h : fX6_fieldHere  S = some res) : Met l yX6_fieldHere (wm yX6_fieldHere cX6_fieldHere 1 (some .int)) (rmL 5 0 0) (PcW G S [.ref (gR G 32)]) (QI G res.1 res.2) 0 0 (Ab G) := by
  refine Met.ofW (cc := cX6_fieldHere) (maxL := 1) (ret := (some .int)) (by decide) rfl ?_
  intro p e s m args below meth c s₁ B hml hv
  obtain ⟨rfl, hK, hP⟩ := hv
  have C : Cx p s m _ meth c cX6_fieldHere 1 RX6 G := ⟨⟨B.exec, B.bytes, hml, findClass_of_methodNamed B.named, fun w hw => atoms_spec (ws := wm yX6_fieldHere cX6_fieldHere 1 (some .int)) B.pre w (List.mem_cons_of_mem _ hw)⟩, B.notSynchronized, hK⟩
  have hl := lv_entry ([.ref (gR G 32)]) (n := 1) (Nat.le_of_ble_eq_true rfl)
  rw [lg_entry_eq]
  generalize (lg_sl ([.ref (gR G 32)]) ++ List.replicate (1 - (lg_sl ([.ref (gR G 32)])).length) Slot.unset).toArray = ls at hl ⊢
  exact sfX6_fieldHere C B.returns  ⟨hP, va_S.rf⟩ hl h
def fX6_singerHere  (S : St) : Option (Int32 × St) :=
  gm S 32 2 8 fun q1 => bd (fX6_numberHere 0 ((S q1 2) - 1) 3 S) fun x2 S => ri x2 S
set_option maxHeartbeats 4000000 in
set_option maxRecDepth 20000 in
theorem sfX6_singerHere (C : Cx p s m args meth c cX6_singerHere 1 RX6 G) (hr : meth.sig.returnType = some .int)  {S : St} {res : (Int32 × St)} {H : Heap} {locs : List Loc} {ls : Array Slot}  (hd : Dy G S s H locs) (hl : lv_has ls 1 [(0, .ref (gR G 32))]) (h : fX6_singerHere  S = some res) : W p l e (rmL 5 0 0) s m args below meth c H locs 0 0 (MQ below (QI G res.1 res.2) args s 0 0 (Ab G)) (F0 m 0 ls []) := by
  unfold fX6_singerHere at h
  have hx := C.1.1
  have hb := C.1.2.1
  refine lv_aload_n hx hb dX6_singerHere_0 rfl (lv_at hl 0 rfl) ?_
  refine lv_iconst (v := 0) hx hb dX6_singerHere_1 (by decide) ?_
  refine lv_aload_n hx hb dX6_singerHere_2 rfl (lv_at hl 0 rfl) ?_
  refine gX6_29 C hd (rfl : kd 32 = 6) h dX6_singerHere_3 (fun q1 kq1 h => ?_)
  refine gX6_124 C hd kq1 dX6_singerHere_6 ?_
  refine lv_iconst (v := 1) hx hb dX6_singerHere_9 (by decide) ?_
  refine lv_isub hx hb dX6_singerHere_10 ?_
  refine lv_iconst (v := 3) hx hb dX6_singerHere_11 (by decide) ?_
  obtain ⟨x2, S1, hc, h⟩ := bd_some h
  refine R_cVi C hd (ccX6_numberHere l G  hc) kX6_120 rfl (by decide) (rfl : kd 32 = 6) hl.1 ⟨by decide, by decide⟩ rfl rfl (Nat.le_of_ble_eq_true rfl) dX6_singerHere_12 ⟨Nat.zero_le _, Nat.zero_le _⟩ (fun H locs hd => ?_)
  generalize S1 = S at h hd
  exact R_iret C hr hd h dX6_singerHere_15
set_option maxRecDepth 20000 in
theorem ccX6_singerHere (l : Launch) (G : Gt)  {S : St} {res : (Int32 × St)}  (h : fX6_singerHere  S = some res) : Met l yX6_singerHere (wm yX6_singerHere cX6_singerHere 1 (some .int)) (rmL 5 0 0) (PcW G S [.ref (gR G 32)]) (QI G res.1 res.2) 0 0 (Ab G) := by
  refine Met.ofW (cc := cX6_singerHere) (maxL := 1) (ret := (some .int)) (by decide) rfl ?_
  intro p e s m args below meth c s₁ B hml hv
  obtain ⟨rfl, hK, hP⟩ := hv
  have C : Cx p s m _ meth c cX6_singerHere 1 RX6 G := ⟨⟨B.exec, B.bytes, hml, findClass_of_methodNamed B.named, fun w hw => atoms_spec (ws := wm yX6_singerHere cX6_singerHere 1 (some .int)) B.pre w (List.mem_cons_of_mem _ hw)⟩, B.notSynchronized, hK⟩
  have hl := lv_entry ([.ref (gR G 32)]) (n := 1) (Nat.le_of_ble_eq_true rfl)
  rw [lg_entry_eq]
  generalize (lg_sl ([.ref (gR G 32)]) ++ List.replicate (1 - (lg_sl ([.ref (gR G 32)])).length) Slot.unset).toArray = ls at hl ⊢
  exact sfX6_singerHere C B.returns  ⟨hP, va_S.rf⟩ hl h
def BX6_knowsLine_47 (l1 : Int32) (l2 : Int32) (S : St) : Option St :=
  bv (fX6_pass  S) fun S => bv (fX6_passEnd  S) fun S => (if (S 32 3) = 0 then gm S 32 2 8 fun q2 => rd S (sr q2 10) l1 fun x4 => wr S (sr q2 10) l1 (x4 ||| ((1 : Int32) <<< (l2 &&& 31))) fun S => some S else some S)
set_option maxHeartbeats 4000000 in
set_option maxRecDepth 20000 in
theorem sBX6_knowsLine_47 (C : Cx p s m args meth c cX6_knowsLine 3 RX6 G) (hr : meth.sig.returnType = none) {l1 : Int32} {l2 : Int32} {S : St} {res : St} {H : Heap} {locs : List Loc} {ls : Array Slot}  (hd : Dy G S s H locs) (hl : lv_has ls 3 [(0, .ref (gR G 32)), (1, .int l1), (2, .int l2)]) (h : BX6_knowsLine_47 l1 l2 S = some res) : W p l e (rmL 7 0 0) s m args below meth c H locs 0 0 (MQ below (QV G res) args s 0 0 (Ab G)) (F0 m 47 ls []) := by
  unfold BX6_knowsLine_47 at h
  have hx := C.1.1
  have hb := C.1.2.1
  refine lv_aload_n hx hb dX6_knowsLine_47 rfl (lv_at hl 0 rfl) ?_
  obtain ⟨S1, hc, h⟩ := bv_some h
  refine R_cVv C hd (ccX6_pass l G  hc) kX6_107 rfl (by decide) (rfl : kd 32 = 6) hl.1 ⟨by decide, by decide⟩ rfl rfl (Nat.le_of_ble_eq_true rfl) dX6_knowsLine_48 ⟨Nat.zero_le _, Nat.zero_le _⟩ (fun H locs hd => ?_)
  generalize S1 = S at h hd
  refine lv_aload_n hx hb dX6_knowsLine_51 rfl (lv_at hl 0 rfl) ?_
  obtain ⟨S1, hc, h⟩ := bv_some h
  refine R_cVv C hd (ccX6_passEnd l G  hc) kX6_134 rfl (by decide) (rfl : kd 32 = 6) hl.1 ⟨by decide, by decide⟩ rfl rfl (Nat.le_of_ble_eq_true rfl) dX6_knowsLine_52 ⟨Nat.zero_le _, Nat.zero_le _⟩ (fun H locs hd => ?_)
  generalize S1 = S at h hd
  refine lv_aload_n hx hb dX6_knowsLine_55 rfl (lv_at hl 0 rfl) ?_
  refine gX6_38 C hd (rfl : kd 32 = 6) dX6_knowsLine_56 ?_
  refine lv_if_ne (tgt := 77) hx hb dX6_knowsLine_59 (by decide) (fun c1 => ?_) (fun c1 => ?_)
  · rw [if_neg c1] at h
    exact R_vret C hr hd h dX6_knowsLine_77
  · rw [if_pos c1] at h
    refine lv_aload_n hx hb dX6_knowsLine_62 rfl (lv_at hl 0 rfl) ?_
    refine gX6_29 C hd (rfl : kd 32 = 6) h dX6_knowsLine_63 (fun q2 kq2 h => ?_)
    refine gX6_160 C hd kq2 (q := sr q2 10) rfl dX6_knowsLine_66 (fun y3 => ?_)
    refine lv_iload_n hx hb dX6_knowsLine_69 rfl (lv_at hl 1 rfl) ?_
    refine lv_dup2_11 hx hb dX6_knowsLine_70 rfl rfl ?_
    refine R_iald C hd y3 h dX6_knowsLine_71 (fun x4 h => ?_)
    refine lv_iconst (v := 1) hx hb dX6_knowsLine_72 (by decide) ?_
    refine lv_iload_n hx hb dX6_knowsLine_73 rfl (lv_at hl 2 rfl) ?_
    refine lv_ishl hx hb dX6_knowsLine_74 ?_
    refine lv_ior hx hb dX6_knowsLine_75 ?_
    refine R_iast C hd y3 h dX6_knowsLine_76 (fun S H locs hd h => ?_)
    exact R_vret C hr hd h dX6_knowsLine_77
def fX6_knowsLine  (S : St) : Option St :=
  bv (fX6_pass  S) fun S => bd (fX6_singerHere  S) fun x1 S => bv (fX6_pass  S) fun S => bd (fX6_fieldHere  S) fun x2 S => (if (S 32 3) = 0 then gm S 32 2 8 fun q4 => rd S (sr q4 10) x1 fun x6 => (if ((x6 >>> (x2 &&& 31)) &&& 1) = 0 then (BX6_knowsLine_47 x1 x2 S) else bd (fX6_refuse 4 S) fun x8 S => (BX6_knowsLine_47 x1 x2 S)) else (BX6_knowsLine_47 x1 x2 S))
set_option maxHeartbeats 4000000 in
set_option maxRecDepth 20000 in
theorem sfX6_knowsLine (C : Cx p s m args meth c cX6_knowsLine 3 RX6 G) (hr : meth.sig.returnType = none)  {S : St} {res : St} {H : Heap} {locs : List Loc} {ls : Array Slot}  (hd : Dy G S s H locs) (hl : lv_has ls 3 [(0, .ref (gR G 32))]) (h : fX6_knowsLine  S = some res) : W p l e (rmL 7 0 0) s m args below meth c H locs 0 0 (MQ below (QV G res) args s 0 0 (Ab G)) (F0 m 0 ls []) := by
  unfold fX6_knowsLine at h
  have hx := C.1.1
  have hb := C.1.2.1
  refine lv_aload_n hx hb dX6_knowsLine_0 rfl (lv_at hl 0 rfl) ?_
  obtain ⟨S1, hc, h⟩ := bv_some h
  refine R_cVv C hd (ccX6_pass l G  hc) kX6_107 rfl (by decide) (rfl : kd 32 = 6) hl.1 ⟨by decide, by decide⟩ rfl rfl (Nat.le_of_ble_eq_true rfl) dX6_knowsLine_1 ⟨Nat.zero_le _, Nat.zero_le _⟩ (fun H locs hd => ?_)
  generalize S1 = S at h hd
  refine lv_aload_n hx hb dX6_knowsLine_4 rfl (lv_at hl 0 rfl) ?_
  obtain ⟨x1, S1, hc, h⟩ := bd_some h
  refine R_cVi C hd (ccX6_singerHere l G  hc) kX6_163 rfl (by decide) (rfl : kd 32 = 6) hl.1 ⟨by decide, by decide⟩ rfl rfl (Nat.le_of_ble_eq_true rfl) dX6_knowsLine_5 ⟨Nat.zero_le _, Nat.zero_le _⟩ (fun H locs hd => ?_)
  generalize S1 = S at h hd
  refine lv_istore_n (lv' := [(1, .int x1), (0, .ref (gR G 32))]) hx hb dX6_knowsLine_8 rfl hl (by decide) rfl (fun ls hl => ?_)
  refine lv_aload_n hx hb dX6_knowsLine_9 rfl (lv_at hl 1 rfl) ?_
  obtain ⟨S1, hc, h⟩ := bv_some h
  refine R_cVv C hd (ccX6_pass l G  hc) kX6_107 rfl (by decide) (rfl : kd 32 = 6) hl.1 ⟨by decide, by decide⟩ rfl rfl (Nat.le_of_ble_eq_true rfl) dX6_knowsLine_10 ⟨Nat.zero_le _, Nat.zero_le _⟩ (fun H locs hd => ?_)
  generalize S1 = S at h hd
  refine lv_aload_n hx hb dX6_knowsLine_13 rfl (lv_at hl 1 rfl) ?_
  obtain ⟨x2, S1, hc, h⟩ := bd_some h
  refine R_cVi C hd (ccX6_fieldHere l G  hc) kX6_143 rfl (by decide) (rfl : kd 32 = 6) hl.1 ⟨by decide, by decide⟩ rfl rfl (Nat.le_of_ble_eq_true rfl) dX6_knowsLine_14 ⟨Nat.zero_le _, Nat.zero_le _⟩ (fun H locs hd => ?_)
  generalize S1 = S at h hd
  refine lv_istore_n (lv' := [(2, .int x2), (1, .int x1), (0, .ref (gR G 32))]) hx hb dX6_knowsLine_17 rfl hl (by decide) rfl (fun ls hl => ?_)
  refine lv_aload_n hx hb dX6_knowsLine_18 rfl (lv_at hl 2 rfl) ?_
  refine gX6_38 C hd (rfl : kd 32 = 6) dX6_knowsLine_19 ?_
  refine lv_if_ne (tgt := 47) hx hb dX6_knowsLine_22 (by decide) (fun c3 => ?_) (fun c3 => ?_)
  · rw [if_neg c3] at h
    exact sBX6_knowsLine_47 C hr  hd (lv_sub hl [2, 1, 0] rfl) h
  · rw [if_pos c3] at h
    refine lv_aload_n hx hb dX6_knowsLine_25 rfl (lv_at hl 2 rfl) ?_
    refine gX6_29 C hd (rfl : kd 32 = 6) h dX6_knowsLine_26 (fun q4 kq4 h => ?_)
    refine gX6_160 C hd kq4 (q := sr q4 10) rfl dX6_knowsLine_29 (fun y5 => ?_)
    refine lv_iload_n hx hb dX6_knowsLine_32 rfl (lv_at hl 1 rfl) ?_
    refine R_iald C hd y5 h dX6_knowsLine_33 (fun x6 h => ?_)
    refine lv_iload_n hx hb dX6_knowsLine_34 rfl (lv_at hl 0 rfl) ?_
    refine lv_ishr hx hb dX6_knowsLine_35 ?_
    refine lv_iconst (v := 1) hx hb dX6_knowsLine_36 (by decide) ?_
    refine lv_iand hx hb dX6_knowsLine_37 ?_
    refine lv_if_eq (tgt := 47) hx hb dX6_knowsLine_38 (by decide) (fun c7 => ?_) (fun c7 => ?_)
    · rw [if_pos c7] at h
      exact sBX6_knowsLine_47 C hr  hd (lv_sub hl [2, 1, 0] rfl) h
    · rw [if_neg c7] at h
      refine lv_aload_n hx hb dX6_knowsLine_41 rfl (lv_at hl 2 rfl) ?_
      refine lv_iconst (v := 4) hx hb dX6_knowsLine_42 (by decide) ?_
      obtain ⟨x8, S1, hc, h⟩ := bd_some h
      refine R_cVi C hd (ccX6_refuse l G  hc) kX6_94 rfl (by decide) (rfl : kd 32 = 6) hl.1 ⟨by decide, by decide⟩ rfl rfl (Nat.le_of_ble_eq_true rfl) dX6_knowsLine_43 ⟨Nat.zero_le _, Nat.zero_le _⟩ (fun H locs hd => ?_)
      generalize S1 = S at h hd
      refine lv_pop hx hb dX6_knowsLine_46 rfl ?_
      exact sBX6_knowsLine_47 C hr  hd (lv_sub hl [2, 1, 0] rfl) h
set_option maxRecDepth 20000 in
theorem ccX6_knowsLine (l : Launch) (G : Gt)  {S : St} {res : St}  (h : fX6_knowsLine  S = some res) : Met l yX6_knowsLine (wm yX6_knowsLine cX6_knowsLine 3 (none)) (rmL 7 0 0) (PcW G S [.ref (gR G 32)]) (QV G res) 0 0 (Ab G) := by
  refine Met.ofW (cc := cX6_knowsLine) (maxL := 3) (ret := none) (by decide) rfl ?_
  intro p e s m args below meth c s₁ B hml hv
  obtain ⟨rfl, hK, hP⟩ := hv
  have C : Cx p s m _ meth c cX6_knowsLine 3 RX6 G := ⟨⟨B.exec, B.bytes, hml, findClass_of_methodNamed B.named, fun w hw => atoms_spec (ws := wm yX6_knowsLine cX6_knowsLine 3 (none)) B.pre w (List.mem_cons_of_mem _ hw)⟩, B.notSynchronized, hK⟩
  have hl := lv_entry ([.ref (gR G 32)]) (n := 3) (Nat.le_of_ble_eq_true rfl)
  rw [lg_entry_eq]
  generalize (lg_sl ([.ref (gR G 32)]) ++ List.replicate (3 - (lg_sl ([.ref (gR G 32)])).length) Slot.unset).toArray = ls at hl ⊢
  exact sfX6_knowsLine C B.returns  ⟨hP, va_S.rf⟩ hl h
def BX6_ownsLine_44 (l1 : Int32) (l2 : Int32) (S : St) : Option St :=
  bv (fX6_pass  S) fun S => bv (fX6_passEnd  S) fun S => (if (S 32 3) = 0 then gm S 32 2 8 fun q2 => wr S (sr q2 11) l2 l1 fun S => some S else some S)
set_option maxHeartbeats 4000000 in
set_option maxRecDepth 20000 in
theorem sBX6_ownsLine_44 (C : Cx p s m args meth c cX6_ownsLine 3 RX6 G) (hr : meth.sig.returnType = none) {l1 : Int32} {l2 : Int32} {S : St} {res : St} {H : Heap} {locs : List Loc} {ls : Array Slot}  (hd : Dy G S s H locs) (hl : lv_has ls 3 [(0, .ref (gR G 32)), (1, .int l1), (2, .int l2)]) (h : BX6_ownsLine_44 l1 l2 S = some res) : W p l e (rmL 7 0 0) s m args below meth c H locs 0 0 (MQ below (QV G res) args s 0 0 (Ab G)) (F0 m 44 ls []) := by
  unfold BX6_ownsLine_44 at h
  have hx := C.1.1
  have hb := C.1.2.1
  refine lv_aload_n hx hb dX6_ownsLine_44 rfl (lv_at hl 0 rfl) ?_
  obtain ⟨S1, hc, h⟩ := bv_some h
  refine R_cVv C hd (ccX6_pass l G  hc) kX6_107 rfl (by decide) (rfl : kd 32 = 6) hl.1 ⟨by decide, by decide⟩ rfl rfl (Nat.le_of_ble_eq_true rfl) dX6_ownsLine_45 ⟨Nat.zero_le _, Nat.zero_le _⟩ (fun H locs hd => ?_)
  generalize S1 = S at h hd
  refine lv_aload_n hx hb dX6_ownsLine_48 rfl (lv_at hl 0 rfl) ?_
  obtain ⟨S1, hc, h⟩ := bv_some h
  refine R_cVv C hd (ccX6_passEnd l G  hc) kX6_134 rfl (by decide) (rfl : kd 32 = 6) hl.1 ⟨by decide, by decide⟩ rfl rfl (Nat.le_of_ble_eq_true rfl) dX6_ownsLine_49 ⟨Nat.zero_le _, Nat.zero_le _⟩ (fun H locs hd => ?_)
  generalize S1 = S at h hd
  refine lv_aload_n hx hb dX6_ownsLine_52 rfl (lv_at hl 0 rfl) ?_
  refine gX6_38 C hd (rfl : kd 32 = 6) dX6_ownsLine_53 ?_
  refine lv_if_ne (tgt := 69) hx hb dX6_ownsLine_56 (by decide) (fun c1 => ?_) (fun c1 => ?_)
  · rw [if_neg c1] at h
    exact R_vret C hr hd h dX6_ownsLine_69
  · rw [if_pos c1] at h
    refine lv_aload_n hx hb dX6_ownsLine_59 rfl (lv_at hl 0 rfl) ?_
    refine gX6_29 C hd (rfl : kd 32 = 6) h dX6_ownsLine_60 (fun q2 kq2 h => ?_)
    refine gX6_166 C hd kq2 (q := sr q2 11) rfl dX6_ownsLine_63 (fun y3 => ?_)
    refine lv_iload_n hx hb dX6_ownsLine_66 rfl (lv_at hl 2 rfl) ?_
    refine lv_iload_n hx hb dX6_ownsLine_67 rfl (lv_at hl 1 rfl) ?_
    refine R_iast C hd y3 h dX6_ownsLine_68 (fun S H locs hd h => ?_)
    exact R_vret C hr hd h dX6_ownsLine_69
def fX6_ownsLine  (S : St) : Option St :=
  bv (fX6_pass  S) fun S => bd (fX6_singerHere  S) fun x1 S => bv (fX6_pass  S) fun S => bd (fX6_fieldHere  S) fun x2 S => (if (S 32 3) = 0 then gm S 32 2 8 fun q4 => rd S (sr q4 11) x2 fun x6 => (if x6 = (-1) then (BX6_ownsLine_44 x1 x2 S) else bd (fX6_refuse 4 S) fun x8 S => (BX6_ownsLine_44 x1 x2 S)) else (BX6_ownsLine_44 x1 x2 S))
set_option maxHeartbeats 4000000 in
set_option maxRecDepth 20000 in
theorem sfX6_ownsLine (C : Cx p s m args meth c cX6_ownsLine 3 RX6 G) (hr : meth.sig.returnType = none)  {S : St} {res : St} {H : Heap} {locs : List Loc} {ls : Array Slot}  (hd : Dy G S s H locs) (hl : lv_has ls 3 [(0, .ref (gR G 32))]) (h : fX6_ownsLine  S = some res) : W p l e (rmL 7 0 0) s m args below meth c H locs 0 0 (MQ below (QV G res) args s 0 0 (Ab G)) (F0 m 0 ls []) := by
  unfold fX6_ownsLine at h
  have hx := C.1.1
  have hb := C.1.2.1
  refine lv_aload_n hx hb dX6_ownsLine_0 rfl (lv_at hl 0 rfl) ?_
  obtain ⟨S1, hc, h⟩ := bv_some h
  refine R_cVv C hd (ccX6_pass l G  hc) kX6_107 rfl (by decide) (rfl : kd 32 = 6) hl.1 ⟨by decide, by decide⟩ rfl rfl (Nat.le_of_ble_eq_true rfl) dX6_ownsLine_1 ⟨Nat.zero_le _, Nat.zero_le _⟩ (fun H locs hd => ?_)
  generalize S1 = S at h hd
  refine lv_aload_n hx hb dX6_ownsLine_4 rfl (lv_at hl 0 rfl) ?_
  obtain ⟨x1, S1, hc, h⟩ := bd_some h
  refine R_cVi C hd (ccX6_singerHere l G  hc) kX6_163 rfl (by decide) (rfl : kd 32 = 6) hl.1 ⟨by decide, by decide⟩ rfl rfl (Nat.le_of_ble_eq_true rfl) dX6_ownsLine_5 ⟨Nat.zero_le _, Nat.zero_le _⟩ (fun H locs hd => ?_)
  generalize S1 = S at h hd
  refine lv_istore_n (lv' := [(1, .int x1), (0, .ref (gR G 32))]) hx hb dX6_ownsLine_8 rfl hl (by decide) rfl (fun ls hl => ?_)
  refine lv_aload_n hx hb dX6_ownsLine_9 rfl (lv_at hl 1 rfl) ?_
  obtain ⟨S1, hc, h⟩ := bv_some h
  refine R_cVv C hd (ccX6_pass l G  hc) kX6_107 rfl (by decide) (rfl : kd 32 = 6) hl.1 ⟨by decide, by decide⟩ rfl rfl (Nat.le_of_ble_eq_true rfl) dX6_ownsLine_10 ⟨Nat.zero_le _, Nat.zero_le _⟩ (fun H locs hd => ?_)
  generalize S1 = S at h hd
  refine lv_aload_n hx hb dX6_ownsLine_13 rfl (lv_at hl 1 rfl) ?_
  obtain ⟨x2, S1, hc, h⟩ := bd_some h
  refine R_cVi C hd (ccX6_fieldHere l G  hc) kX6_143 rfl (by decide) (rfl : kd 32 = 6) hl.1 ⟨by decide, by decide⟩ rfl rfl (Nat.le_of_ble_eq_true rfl) dX6_ownsLine_14 ⟨Nat.zero_le _, Nat.zero_le _⟩ (fun H locs hd => ?_)
  generalize S1 = S at h hd
  refine lv_istore_n (lv' := [(2, .int x2), (1, .int x1), (0, .ref (gR G 32))]) hx hb dX6_ownsLine_17 rfl hl (by decide) rfl (fun ls hl => ?_)
  refine lv_aload_n hx hb dX6_ownsLine_18 rfl (lv_at hl 2 rfl) ?_
  refine gX6_38 C hd (rfl : kd 32 = 6) dX6_ownsLine_19 ?_
  refine lv_if_ne (tgt := 44) hx hb dX6_ownsLine_22 (by decide) (fun c3 => ?_) (fun c3 => ?_)
  · rw [if_neg c3] at h
    exact sBX6_ownsLine_44 C hr  hd (lv_sub hl [2, 1, 0] rfl) h
  · rw [if_pos c3] at h
    refine lv_aload_n hx hb dX6_ownsLine_25 rfl (lv_at hl 2 rfl) ?_
    refine gX6_29 C hd (rfl : kd 32 = 6) h dX6_ownsLine_26 (fun q4 kq4 h => ?_)
    refine gX6_166 C hd kq4 (q := sr q4 11) rfl dX6_ownsLine_29 (fun y5 => ?_)
    refine lv_iload_n hx hb dX6_ownsLine_32 rfl (lv_at hl 0 rfl) ?_
    refine R_iald C hd y5 h dX6_ownsLine_33 (fun x6 h => ?_)
    refine lv_iconst (v := -1) hx hb dX6_ownsLine_34 (by decide) ?_
    refine lv_icmp_eq (tgt := 44) hx hb dX6_ownsLine_35 (by decide) (fun c7 => ?_) (fun c7 => ?_)
    · rw [if_pos c7] at h
      exact sBX6_ownsLine_44 C hr  hd (lv_sub hl [2, 1, 0] rfl) h
    · rw [if_neg c7] at h
      refine lv_aload_n hx hb dX6_ownsLine_38 rfl (lv_at hl 2 rfl) ?_
      refine lv_iconst (v := 4) hx hb dX6_ownsLine_39 (by decide) ?_
      obtain ⟨x8, S1, hc, h⟩ := bd_some h
      refine R_cVi C hd (ccX6_refuse l G  hc) kX6_94 rfl (by decide) (rfl : kd 32 = 6) hl.1 ⟨by decide, by decide⟩ rfl rfl (Nat.le_of_ble_eq_true rfl) dX6_ownsLine_40 ⟨Nat.zero_le _, Nat.zero_le _⟩ (fun H locs hd => ?_)
      generalize S1 = S at h hd
      refine lv_pop hx hb dX6_ownsLine_43 rfl ?_
      exact sBX6_ownsLine_44 C hr  hd (lv_sub hl [2, 1, 0] rfl) h
set_option maxRecDepth 20000 in
theorem ccX6_ownsLine (l : Launch) (G : Gt)  {S : St} {res : St}  (h : fX6_ownsLine  S = some res) : Met l yX6_ownsLine (wm yX6_ownsLine cX6_ownsLine 3 (none)) (rmL 7 0 0) (PcW G S [.ref (gR G 32)]) (QV G res) 0 0 (Ab G) := by
  refine Met.ofW (cc := cX6_ownsLine) (maxL := 3) (ret := none) (by decide) rfl ?_
  intro p e s m args below meth c s₁ B hml hv
  obtain ⟨rfl, hK, hP⟩ := hv
  have C : Cx p s m _ meth c cX6_ownsLine 3 RX6 G := ⟨⟨B.exec, B.bytes, hml, findClass_of_methodNamed B.named, fun w hw => atoms_spec (ws := wm yX6_ownsLine cX6_ownsLine 3 (none)) B.pre w (List.mem_cons_of_mem _ hw)⟩, B.notSynchronized, hK⟩
  have hl := lv_entry ([.ref (gR G 32)]) (n := 3) (Nat.le_of_ble_eq_true rfl)
  rw [lg_entry_eq]
  generalize (lg_sl ([.ref (gR G 32)]) ++ List.replicate (3 - (lg_sl ([.ref (gR G 32)])).length) Slot.unset).toArray = ls at hl ⊢
  exact sfX6_ownsLine C B.returns  ⟨hP, va_S.rf⟩ hl h
def BX6_pathLine_71 (l1 : Int32) (l2 : Int32) (S : St) : Option St :=
  bv (fX6_pass  S) fun S => bd (fX6_numberHere 1 20 2 S) fun x1 S => bv (fX6_pass  S) fun S => bv (fX6_passEnd  S) fun S => (if (S 32 3) = 0 then gm S 32 2 8 fun q3 => bv (fX8_addPath q3 l1 l2 x1 S) fun S => some S else some S)
set_option maxHeartbeats 4000000 in
set_option maxRecDepth 20000 in
theorem sBX6_pathLine_71 (C : Cx p s m args meth c cX6_pathLine 4 RX6 G) (hr : meth.sig.returnType = none) {l1 : Int32} {l2 : Int32} {S : St} {res : St} {H : Heap} {locs : List Loc} {ls : Array Slot}  (hd : Dy G S s H locs) (hl : lv_has ls 4 [(0, .ref (gR G 32)), (1, .int l1), (2, .int l2)]) (h : BX6_pathLine_71 l1 l2 S = some res) : W p l e (rmL 7 0 0) s m args below meth c H locs 0 0 (MQ below (QV G res) args s 0 0 (Ab G)) (F0 m 71 ls []) := by
  unfold BX6_pathLine_71 at h
  have hx := C.1.1
  have hb := C.1.2.1
  refine lv_aload_n hx hb dX6_pathLine_71 rfl (lv_at hl 0 rfl) ?_
  obtain ⟨S1, hc, h⟩ := bv_some h
  refine R_cVv C hd (ccX6_pass l G  hc) kX6_107 rfl (by decide) (rfl : kd 32 = 6) hl.1 ⟨by decide, by decide⟩ rfl rfl (Nat.le_of_ble_eq_true rfl) dX6_pathLine_72 ⟨Nat.zero_le _, Nat.zero_le _⟩ (fun H locs hd => ?_)
  generalize S1 = S at h hd
  refine lv_aload_n hx hb dX6_pathLine_75 rfl (lv_at hl 0 rfl) ?_
  refine lv_iconst (v := 1) hx hb dX6_pathLine_76 (by decide) ?_
  refine lv_bipush (v := 20) hx hb dX6_pathLine_77 (by decide) ?_
  refine lv_iconst (v := 2) hx hb dX6_pathLine_79 (by decide) ?_
  obtain ⟨x1, S1, hc, h⟩ := bd_some h
  refine R_cVi C hd (ccX6_numberHere l G  hc) kX6_120 rfl (by decide) (rfl : kd 32 = 6) hl.1 ⟨by decide, by decide⟩ rfl rfl (Nat.le_of_ble_eq_true rfl) dX6_pathLine_80 ⟨Nat.zero_le _, Nat.zero_le _⟩ (fun H locs hd => ?_)
  generalize S1 = S at h hd
  refine lv_istore_n (lv' := [(3, .int x1), (0, .ref (gR G 32)), (1, .int l1), (2, .int l2)]) hx hb dX6_pathLine_83 rfl hl (by decide) rfl (fun ls hl => ?_)
  refine lv_aload_n hx hb dX6_pathLine_84 rfl (lv_at hl 1 rfl) ?_
  obtain ⟨S1, hc, h⟩ := bv_some h
  refine R_cVv C hd (ccX6_pass l G  hc) kX6_107 rfl (by decide) (rfl : kd 32 = 6) hl.1 ⟨by decide, by decide⟩ rfl rfl (Nat.le_of_ble_eq_true rfl) dX6_pathLine_85 ⟨Nat.zero_le _, Nat.zero_le _⟩ (fun H locs hd => ?_)
  generalize S1 = S at h hd
  refine lv_aload_n hx hb dX6_pathLine_88 rfl (lv_at hl 1 rfl) ?_
  obtain ⟨S1, hc, h⟩ := bv_some h
  refine R_cVv C hd (ccX6_passEnd l G  hc) kX6_134 rfl (by decide) (rfl : kd 32 = 6) hl.1 ⟨by decide, by decide⟩ rfl rfl (Nat.le_of_ble_eq_true rfl) dX6_pathLine_89 ⟨Nat.zero_le _, Nat.zero_le _⟩ (fun H locs hd => ?_)
  generalize S1 = S at h hd
  refine lv_aload_n hx hb dX6_pathLine_92 rfl (lv_at hl 1 rfl) ?_
  refine gX6_38 C hd (rfl : kd 32 = 6) dX6_pathLine_93 ?_
  refine lv_if_ne (tgt := 109) hx hb dX6_pathLine_96 (by decide) (fun c2 => ?_) (fun c2 => ?_)
  · rw [if_neg c2] at h
    exact R_vret C hr hd h dX6_pathLine_109
  · rw [if_pos c2] at h
    refine lv_aload_n hx hb dX6_pathLine_99 rfl (lv_at hl 1 rfl) ?_
    refine gX6_29 C hd (rfl : kd 32 = 6) h dX6_pathLine_100 (fun q3 kq3 h => ?_)
    refine lv_iload_n hx hb dX6_pathLine_103 rfl (lv_at hl 2 rfl) ?_
    refine lv_iload_n hx hb dX6_pathLine_104 rfl (lv_at hl 3 rfl) ?_
    refine lv_iload_n hx hb dX6_pathLine_105 rfl (lv_at hl 0 rfl) ?_
    obtain ⟨S1, hc, h⟩ := bv_some h
    refine R_cVv C hd (ccX8_addPath l G kq3 hc) kX6_150 rfl (by decide) kq3 hl.1 ⟨by decide, by decide⟩ rfl rfl (Nat.le_of_ble_eq_true rfl) dX6_pathLine_106 ⟨Nat.zero_le _, Nat.zero_le _⟩ (fun H locs hd => ?_)
    generalize S1 = S at h hd
    exact R_vret C hr hd h dX6_pathLine_109
def BX6_pathLine_65 (l1 : Int32) (l2 : Int32) (S : St) : Option St :=
  bd (fX6_refuse 4 S) fun x1 S => (BX6_pathLine_71 l1 l2 S)
set_option maxHeartbeats 4000000 in
set_option maxRecDepth 20000 in
theorem sBX6_pathLine_65 (C : Cx p s m args meth c cX6_pathLine 4 RX6 G) (hr : meth.sig.returnType = none) {l1 : Int32} {l2 : Int32} {S : St} {res : St} {H : Heap} {locs : List Loc} {ls : Array Slot}  (hd : Dy G S s H locs) (hl : lv_has ls 4 [(0, .ref (gR G 32)), (1, .int l1), (2, .int l2)]) (h : BX6_pathLine_65 l1 l2 S = some res) : W p l e (rmL 7 0 0) s m args below meth c H locs 0 0 (MQ below (QV G res) args s 0 0 (Ab G)) (F0 m 65 ls []) := by
  unfold BX6_pathLine_65 at h
  have hx := C.1.1
  have hb := C.1.2.1
  refine lv_aload_n hx hb dX6_pathLine_65 rfl (lv_at hl 0 rfl) ?_
  refine lv_iconst (v := 4) hx hb dX6_pathLine_66 (by decide) ?_
  obtain ⟨x1, S1, hc, h⟩ := bd_some h
  refine R_cVi C hd (ccX6_refuse l G  hc) kX6_94 rfl (by decide) (rfl : kd 32 = 6) hl.1 ⟨by decide, by decide⟩ rfl rfl (Nat.le_of_ble_eq_true rfl) dX6_pathLine_67 ⟨Nat.zero_le _, Nat.zero_le _⟩ (fun H locs hd => ?_)
  generalize S1 = S at h hd
  refine lv_pop hx hb dX6_pathLine_70 rfl ?_
  exact sBX6_pathLine_71 C hr  hd (lv_sub hl [0, 1, 2] rfl) h
def fX6_pathLine  (S : St) : Option St :=
  gm S 32 2 8 fun q1 => (if (S q1 1) < 14 then bv (fX6_pass  S) fun S => bd (fX6_fieldHere  S) fun x3 S => bv (fX6_pass  S) fun S => bd (fX6_fieldHere  S) fun x4 S => (if (S 32 3) = 0 then (if x3 = x4 then (BX6_pathLine_65 x3 x4 S) else gm S 32 2 8 fun q7 => rd S (sr q7 6) x3 fun x9 => (if ((x9 >>> (x4 &&& 31)) &&& 1) = 0 then (BX6_pathLine_71 x3 x4 S) else (BX6_pathLine_65 x3 x4 S))) else (BX6_pathLine_71 x3 x4 S)) else bd (fX6_refuse 2 S) fun x11 S => some S)
set_option maxHeartbeats 4000000 in
set_option maxRecDepth 20000 in
theorem sfX6_pathLine (C : Cx p s m args meth c cX6_pathLine 4 RX6 G) (hr : meth.sig.returnType = none)  {S : St} {res : St} {H : Heap} {locs : List Loc} {ls : Array Slot}  (hd : Dy G S s H locs) (hl : lv_has ls 4 [(0, .ref (gR G 32))]) (h : fX6_pathLine  S = some res) : W p l e (rmL 7 0 0) s m args below meth c H locs 0 0 (MQ below (QV G res) args s 0 0 (Ab G)) (F0 m 0 ls []) := by
  unfold fX6_pathLine at h
  have hx := C.1.1
  have hb := C.1.2.1
  refine lv_aload_n hx hb dX6_pathLine_0 rfl (lv_at hl 0 rfl) ?_
  refine gX6_29 C hd (rfl : kd 32 = 6) h dX6_pathLine_1 (fun q1 kq1 h => ?_)
  refine gX6_140 C hd kq1 dX6_pathLine_4 ?_
  refine lv_bipush (v := 14) hx hb dX6_pathLine_7 (by decide) ?_
  refine lv_icmp_lt (tgt := 19) hx hb dX6_pathLine_9 (by decide) (fun c2 => ?_) (fun c2 => ?_)
  · rw [if_pos c2] at h
    refine lv_aload_n hx hb dX6_pathLine_19 rfl (lv_at hl 0 rfl) ?_
    obtain ⟨S1, hc, h⟩ := bv_some h
    refine R_cVv C hd (ccX6_pass l G  hc) kX6_107 rfl (by decide) (rfl : kd 32 = 6) hl.1 ⟨by decide, by decide⟩ rfl rfl (Nat.le_of_ble_eq_true rfl) dX6_pathLine_20 ⟨Nat.zero_le _, Nat.zero_le _⟩ (fun H locs hd => ?_)
    generalize S1 = S at h hd
    refine lv_aload_n hx hb dX6_pathLine_23 rfl (lv_at hl 0 rfl) ?_
    obtain ⟨x3, S1, hc, h⟩ := bd_some h
    refine R_cVi C hd (ccX6_fieldHere l G  hc) kX6_143 rfl (by decide) (rfl : kd 32 = 6) hl.1 ⟨by decide, by decide⟩ rfl rfl (Nat.le_of_ble_eq_true rfl) dX6_pathLine_24 ⟨Nat.zero_le _, Nat.zero_le _⟩ (fun H locs hd => ?_)
    generalize S1 = S at h hd
    refine lv_istore_n (lv' := [(1, .int x3), (0, .ref (gR G 32))]) hx hb dX6_pathLine_27 rfl hl (by decide) rfl (fun ls hl => ?_)
    refine lv_aload_n hx hb dX6_pathLine_28 rfl (lv_at hl 1 rfl) ?_
    obtain ⟨S1, hc, h⟩ := bv_some h
    refine R_cVv C hd (ccX6_pass l G  hc) kX6_107 rfl (by decide) (rfl : kd 32 = 6) hl.1 ⟨by decide, by decide⟩ rfl rfl (Nat.le_of_ble_eq_true rfl) dX6_pathLine_29 ⟨Nat.zero_le _, Nat.zero_le _⟩ (fun H locs hd => ?_)
    generalize S1 = S at h hd
    refine lv_aload_n hx hb dX6_pathLine_32 rfl (lv_at hl 1 rfl) ?_
    obtain ⟨x4, S1, hc, h⟩ := bd_some h
    refine R_cVi C hd (ccX6_fieldHere l G  hc) kX6_143 rfl (by decide) (rfl : kd 32 = 6) hl.1 ⟨by decide, by decide⟩ rfl rfl (Nat.le_of_ble_eq_true rfl) dX6_pathLine_33 ⟨Nat.zero_le _, Nat.zero_le _⟩ (fun H locs hd => ?_)
    generalize S1 = S at h hd
    refine lv_istore_n (lv' := [(2, .int x4), (1, .int x3), (0, .ref (gR G 32))]) hx hb dX6_pathLine_36 rfl hl (by decide) rfl (fun ls hl => ?_)
    refine lv_aload_n hx hb dX6_pathLine_37 rfl (lv_at hl 2 rfl) ?_
    refine gX6_38 C hd (rfl : kd 32 = 6) dX6_pathLine_38 ?_
    refine lv_if_ne (tgt := 71) hx hb dX6_pathLine_41 (by decide) (fun c5 => ?_) (fun c5 => ?_)
    · rw [if_neg c5] at h
      exact sBX6_pathLine_71 C hr  hd (lv_sub hl [2, 1, 0] rfl) h
    · rw [if_pos c5] at h
      refine lv_iload_n hx hb dX6_pathLine_44 rfl (lv_at hl 1 rfl) ?_
      refine lv_iload_n hx hb dX6_pathLine_45 rfl (lv_at hl 0 rfl) ?_
      refine lv_icmp_eq (tgt := 65) hx hb dX6_pathLine_46 (by decide) (fun c6 => ?_) (fun c6 => ?_)
      · rw [if_pos c6] at h
        exact sBX6_pathLine_65 C hr  hd (lv_sub hl [2, 1, 0] rfl) h
      · rw [if_neg c6] at h
        refine lv_aload_n hx hb dX6_pathLine_49 rfl (lv_at hl 2 rfl) ?_
        refine gX6_29 C hd (rfl : kd 32 = 6) h dX6_pathLine_50 (fun q7 kq7 h => ?_)
        refine gX6_147 C hd kq7 (q := sr q7 6) rfl dX6_pathLine_53 (fun y8 => ?_)
        refine lv_iload_n hx hb dX6_pathLine_56 rfl (lv_at hl 1 rfl) ?_
        refine R_iald C hd y8 h dX6_pathLine_57 (fun x9 h => ?_)
        refine lv_iload_n hx hb dX6_pathLine_58 rfl (lv_at hl 0 rfl) ?_
        refine lv_ishr hx hb dX6_pathLine_59 ?_
        refine lv_iconst (v := 1) hx hb dX6_pathLine_60 (by decide) ?_
        refine lv_iand hx hb dX6_pathLine_61 ?_
        refine lv_if_eq (tgt := 71) hx hb dX6_pathLine_62 (by decide) (fun c10 => ?_) (fun c10 => ?_)
        · rw [if_pos c10] at h
          exact sBX6_pathLine_71 C hr  hd (lv_sub hl [2, 1, 0] rfl) h
        · rw [if_neg c10] at h
          exact sBX6_pathLine_65 C hr  hd (lv_sub hl [2, 1, 0] rfl) h
  · rw [if_neg c2] at h
    refine lv_aload_n hx hb dX6_pathLine_12 rfl (lv_at hl 0 rfl) ?_
    refine lv_iconst (v := 2) hx hb dX6_pathLine_13 (by decide) ?_
    obtain ⟨x11, S1, hc, h⟩ := bd_some h
    refine R_cVi C hd (ccX6_refuse l G  hc) kX6_94 rfl (by decide) (rfl : kd 32 = 6) hl.1 ⟨by decide, by decide⟩ rfl rfl (Nat.le_of_ble_eq_true rfl) dX6_pathLine_14 ⟨Nat.zero_le _, Nat.zero_le _⟩ (fun H locs hd => ?_)
    generalize S1 = S at h hd
    refine lv_pop hx hb dX6_pathLine_17 rfl ?_
    exact R_vret C hr hd h dX6_pathLine_18
set_option maxRecDepth 20000 in
theorem ccX6_pathLine (l : Launch) (G : Gt)  {S : St} {res : St}  (h : fX6_pathLine  S = some res) : Met l yX6_pathLine (wm yX6_pathLine cX6_pathLine 4 (none)) (rmL 7 0 0) (PcW G S [.ref (gR G 32)]) (QV G res) 0 0 (Ab G) := by
  refine Met.ofW (cc := cX6_pathLine) (maxL := 4) (ret := none) (by decide) rfl ?_
  intro p e s m args below meth c s₁ B hml hv
  obtain ⟨rfl, hK, hP⟩ := hv
  have C : Cx p s m _ meth c cX6_pathLine 4 RX6 G := ⟨⟨B.exec, B.bytes, hml, findClass_of_methodNamed B.named, fun w hw => atoms_spec (ws := wm yX6_pathLine cX6_pathLine 4 (none)) B.pre w (List.mem_cons_of_mem _ hw)⟩, B.notSynchronized, hK⟩
  have hl := lv_entry ([.ref (gR G 32)]) (n := 4) (Nat.le_of_ble_eq_true rfl)
  rw [lg_entry_eq]
  generalize (lg_sl ([.ref (gR G 32)]) ++ List.replicate (4 - (lg_sl ([.ref (gR G 32)])).length) Slot.unset).toArray = ls at hl ⊢
  exact sfX6_pathLine C B.returns  ⟨hP, va_S.rf⟩ hl h
def BX6_ruleLine_45  (S : St) : Option St :=
  bv (fX6_passEnd  S) fun S => some S
set_option maxHeartbeats 4000000 in
set_option maxRecDepth 20000 in
theorem sBX6_ruleLine_45 (C : Cx p s m args meth c cX6_ruleLine 4 RX6 G) (hr : meth.sig.returnType = none)  {S : St} {res : St} {H : Heap} {locs : List Loc} {ls : Array Slot}  (hd : Dy G S s H locs) (hl : lv_has ls 4 [(0, .ref (gR G 32))]) (h : BX6_ruleLine_45  S = some res) : W p l e (rmL 10 0 0) s m args below meth c H locs 0 0 (MQ below (QV G res) args s 0 0 (Ab G)) (F0 m 45 ls []) := by
  unfold BX6_ruleLine_45 at h
  have hx := C.1.1
  have hb := C.1.2.1
  refine lv_aload_n hx hb dX6_ruleLine_45 rfl (lv_at hl 0 rfl) ?_
  obtain ⟨S1, hc, h⟩ := bv_some h
  refine R_cVv C hd (ccX6_passEnd l G  hc) kX6_134 rfl (by decide) (rfl : kd 32 = 6) hl.1 ⟨by decide, by decide⟩ rfl rfl (Nat.le_of_ble_eq_true rfl) dX6_ruleLine_46 ⟨Nat.zero_le _, Nat.zero_le _⟩ (fun H locs hd => ?_)
  generalize S1 = S at h hd
  exact R_vret C hr hd h dX6_ruleLine_49
def fX6_ruleLine (a1 : Nat) (a2 : Int32) (S : St) : Option St :=
  (if (S a1 0) = 0 then bv (fX6_pass  S) fun S => gm S 32 2 8 fun q3 => bd (fX8_codeEnd q3 S) fun x4 S => bd (fX2_read a1 a2 x4 S) fun x5 S => (if x5 = 0 then (BX6_ruleLine_45  S) else bd (fX6_refuse x5 S) fun x7 S => (BX6_ruleLine_45  S)) else bd (fX6_refuse 5 S) fun x8 S => some S)
set_option maxHeartbeats 4000000 in
set_option maxRecDepth 20000 in
theorem sfX6_ruleLine (C : Cx p s m args meth c cX6_ruleLine 4 RX6 G) (hr : meth.sig.returnType = none) {a1 : Nat} {a2 : Int32} {S : St} {res : St} {H : Heap} {locs : List Loc} {ls : Array Slot} (k1 : kd a1 = 3) (hd : Dy G S s H locs) (hl : lv_has ls 4 [(0, .ref (gR G 32)), (1, .ref (gR G a1)), (2, .int a2)]) (h : fX6_ruleLine a1 a2 S = some res) : W p l e (rmL 10 0 0) s m args below meth c H locs 0 0 (MQ below (QV G res) args s 0 0 (Ab G)) (F0 m 0 ls []) := by
  unfold fX6_ruleLine at h
  have hx := C.1.1
  have hb := C.1.2.1
  refine lv_aload_n hx hb dX6_ruleLine_0 rfl (lv_at hl 1 rfl) ?_
  refine gX6_169 C hd k1 dX6_ruleLine_1 ?_
  refine lv_if_eq (tgt := 14) hx hb dX6_ruleLine_4 (by decide) (fun c1 => ?_) (fun c1 => ?_)
  · rw [if_pos c1] at h
    refine lv_aload_n hx hb dX6_ruleLine_14 rfl (lv_at hl 0 rfl) ?_
    obtain ⟨S1, hc, h⟩ := bv_some h
    refine R_cVv C hd (ccX6_pass l G  hc) kX6_107 rfl (by decide) (rfl : kd 32 = 6) hl.1 ⟨by decide, by decide⟩ rfl rfl (Nat.le_of_ble_eq_true rfl) dX6_ruleLine_15 ⟨Nat.zero_le _, Nat.zero_le _⟩ (fun H locs hd => ?_)
    generalize S1 = S at h hd
    refine lv_aload_n hx hb dX6_ruleLine_18 rfl (lv_at hl 0 rfl) ?_
    refine gX6_25 C hd (rfl : kd 32 = 6) (q := 34) rfl dX6_ruleLine_19 (fun y2 => ?_)
    refine lv_aload_n hx hb dX6_ruleLine_22 rfl (lv_at hl 1 rfl) ?_
    refine lv_iload_n hx hb dX6_ruleLine_23 rfl (lv_at hl 2 rfl) ?_
    refine lv_aload_n hx hb dX6_ruleLine_24 rfl (lv_at hl 0 rfl) ?_
    refine gX6_29 C hd (rfl : kd 32 = 6) h dX6_ruleLine_25 (fun q3 kq3 h => ?_)
    obtain ⟨x4, S1, hc, h⟩ := bd_some h
    refine R_cVi C hd (ccX8_codeEnd l G kq3 hc) kX6_175 rfl (by decide) kq3 hl.1 ⟨by decide, by decide⟩ rfl rfl (Nat.le_of_ble_eq_true rfl) dX6_ruleLine_28 ⟨Nat.zero_le _, Nat.zero_le _⟩ (fun H locs hd => ?_)
    generalize S1 = S at h hd
    obtain ⟨x5, S1, hc, h⟩ := bd_some h
    refine R_cVi C hd (ccX2_read l G k1 hc) kX6_178 rfl (by decide) y2 hl.1 ⟨by decide, by decide⟩ rfl rfl (Nat.le_of_ble_eq_true rfl) dX6_ruleLine_31 ⟨Nat.zero_le _, Nat.zero_le _⟩ (fun H locs hd => ?_)
    generalize S1 = S at h hd
    refine lv_istore_n (lv' := [(3, .int x5), (0, .ref (gR G 32)), (1, .ref (gR G a1)), (2, .int a2)]) hx hb dX6_ruleLine_34 rfl hl (by decide) rfl (fun ls hl => ?_)
    refine lv_iload_n hx hb dX6_ruleLine_35 rfl (lv_at hl 0 rfl) ?_
    refine lv_if_eq (tgt := 45) hx hb dX6_ruleLine_36 (by decide) (fun c6 => ?_) (fun c6 => ?_)
    · rw [if_pos c6] at h
      exact sBX6_ruleLine_45 C hr  hd (lv_sub hl [1] rfl) h
    · rw [if_neg c6] at h
      refine lv_aload_n hx hb dX6_ruleLine_39 rfl (lv_at hl 1 rfl) ?_
      refine lv_iload_n hx hb dX6_ruleLine_40 rfl (lv_at hl 0 rfl) ?_
      obtain ⟨x7, S1, hc, h⟩ := bd_some h
      refine R_cVi C hd (ccX6_refuse l G  hc) kX6_94 rfl (by decide) (rfl : kd 32 = 6) hl.1 ⟨by decide, by decide⟩ rfl rfl (Nat.le_of_ble_eq_true rfl) dX6_ruleLine_41 ⟨Nat.zero_le _, Nat.zero_le _⟩ (fun H locs hd => ?_)
      generalize S1 = S at h hd
      refine lv_pop hx hb dX6_ruleLine_44 rfl ?_
      exact sBX6_ruleLine_45 C hr  hd (lv_sub hl [1] rfl) h
  · rw [if_neg c1] at h
    refine lv_aload_n hx hb dX6_ruleLine_7 rfl (lv_at hl 0 rfl) ?_
    refine lv_iconst (v := 5) hx hb dX6_ruleLine_8 (by decide) ?_
    obtain ⟨x8, S1, hc, h⟩ := bd_some h
    refine R_cVi C hd (ccX6_refuse l G  hc) kX6_94 rfl (by decide) (rfl : kd 32 = 6) hl.1 ⟨by decide, by decide⟩ rfl rfl (Nat.le_of_ble_eq_true rfl) dX6_ruleLine_9 ⟨Nat.zero_le _, Nat.zero_le _⟩ (fun H locs hd => ?_)
    generalize S1 = S at h hd
    refine lv_pop hx hb dX6_ruleLine_12 rfl ?_
    exact R_vret C hr hd h dX6_ruleLine_13
set_option maxRecDepth 20000 in
theorem ccX6_ruleLine (l : Launch) (G : Gt) {a1 : Nat} {a2 : Int32} {S : St} {res : St} (k1 : kd a1 = 3) (h : fX6_ruleLine a1 a2 S = some res) : Met l yX6_ruleLine (wm yX6_ruleLine cX6_ruleLine 4 (none)) (rmL 10 0 0) (PcW G S [.ref (gR G 32), .ref (gR G a1), .int a2]) (QV G res) 0 0 (Ab G) := by
  refine Met.ofW (cc := cX6_ruleLine) (maxL := 4) (ret := none) (by decide) rfl ?_
  intro p e s m args below meth c s₁ B hml hv
  obtain ⟨rfl, hK, hP⟩ := hv
  have C : Cx p s m _ meth c cX6_ruleLine 4 RX6 G := ⟨⟨B.exec, B.bytes, hml, findClass_of_methodNamed B.named, fun w hw => atoms_spec (ws := wm yX6_ruleLine cX6_ruleLine 4 (none)) B.pre w (List.mem_cons_of_mem _ hw)⟩, B.notSynchronized, hK⟩
  have hl := lv_entry ([.ref (gR G 32), .ref (gR G a1), .int a2]) (n := 4) (Nat.le_of_ble_eq_true rfl)
  rw [lg_entry_eq]
  generalize (lg_sl ([.ref (gR G 32), .ref (gR G a1), .int a2]) ++ List.replicate (4 - (lg_sl ([.ref (gR G 32), .ref (gR G a1), .int a2])).length) Slot.unset).toArray = ls at hl ⊢
  exact sfX6_ruleLine C B.returns k1 ⟨hP, va_S.rf⟩ hl h
end T24
