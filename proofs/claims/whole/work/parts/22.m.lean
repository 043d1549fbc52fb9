section T22
variable {p : Program} {l : Launch} {e : Env} {s : State} {m : MethodId} {args : Array Value} {below : List Frame} {meth : Method} {c : Code} {G : Gt}
def fX8_placeOf (a0 : Nat) (a1 : Nat) (a2 : Int32) (S : St) : Option (Int32 × St) :=
  rd S (sr a0 8) a2 fun x2 => (if 1 ≤ x2 then rd S a1 0 fun x4 => rm' x4 x2 fun x5 => rd S a1 ((62 + (a2 * 6)) + x5) fun x6 => ri x6 S else ri 0 S)
set_option maxHeartbeats 4000000 in
set_option maxRecDepth 20000 in
theorem sfX8_placeOf (C : Cx p s m args meth c cX8_placeOf 4 RX8 G) (hr : meth.sig.returnType = some .int) {a0 : Nat} {a1 : Nat} {a2 : Int32} {S : St} {res : (Int32 × St)} {H : Heap} {locs : List Loc} {ls : Array Slot} (k0 : kd a0 = 8) (k1 : kd a1 = 20) (hd : Dy G S s H locs) (hl : lv_has ls 4 [(0, .ref (gR G a0)), (1, .ref (gR G a1)), (2, .int a2)]) (h : fX8_placeOf a0 a1 a2 S = some res) : W p l e (rmL 3 0 0) s m args below meth c H locs 0 0 (MQ below (QI G res.1 res.2) args s 0 0 (Ab G)) (F0 m 0 ls []) := by
  unfold fX8_placeOf at h
  have hx := C.1.1
  have hb := C.1.2.1
  refine lv_aload_n hx hb dX8_placeOf_0 rfl (lv_at hl 0 rfl) ?_
  refine gX8_27 C hd k0 (q := sr a0 8) rfl dX8_placeOf_1 (fun y1 => ?_)
  refine lv_iload_n hx hb dX8_placeOf_4 rfl (lv_at hl 2 rfl) ?_
  refine R_iald C hd y1 h dX8_placeOf_5 (fun x2 h => ?_)
  refine lv_istore_n (lv' := [(3, .int x2), (0, .ref (gR G a0)), (1, .ref (gR G a1)), (2, .int a2)]) hx hb dX8_placeOf_6 rfl hl (by decide) rfl (fun ls hl => ?_)
  refine lv_iload_n hx hb dX8_placeOf_7 rfl (lv_at hl 0 rfl) ?_
  refine lv_iconst (v := 1) hx hb dX8_placeOf_8 (by decide) ?_
  refine lv_icmp_ge (tgt := 16) hx hb dX8_placeOf_9 (by decide) (fun c3 => ?_) (fun c3 => ?_)
  · rw [if_pos c3] at h
    refine lv_aload_n hx hb dX8_placeOf_16 rfl (lv_at hl 2 rfl) ?_
    refine lv_bipush (v := 62) hx hb dX8_placeOf_17 (by decide) ?_
    refine lv_iload_n hx hb dX8_placeOf_19 rfl (lv_at hl 3 rfl) ?_
    refine lv_bipush (v := 6) hx hb dX8_placeOf_20 (by decide) ?_
    refine lv_imul hx hb dX8_placeOf_22 ?_
    refine lv_iadd hx hb dX8_placeOf_23 ?_
    refine lv_aload_n hx hb dX8_placeOf_24 rfl (lv_at hl 2 rfl) ?_
    refine lv_iconst (v := 0) hx hb dX8_placeOf_25 (by decide) ?_
    refine R_iald C hd k1 h dX8_placeOf_26 (fun x4 h => ?_)
    refine lv_iload_n hx hb dX8_placeOf_27 rfl (lv_at hl 0 rfl) ?_
    refine R_rem C h dX8_placeOf_28 (fun x5 h => ?_)
    refine lv_iadd hx hb dX8_placeOf_29 ?_
    refine R_iald C hd k1 h dX8_placeOf_30 (fun x6 h => ?_)
    exact R_iret C hr hd h dX8_placeOf_31
  · rw [if_neg c3] at h
    refine lv_iconst (v := 0) hx hb dX8_placeOf_12 (by decide) ?_
    refine lv_goto (tgt := 31) hx hb dX8_placeOf_13 (by decide) ?_
    exact R_iret C hr hd h dX8_placeOf_31
set_option maxRecDepth 20000 in
theorem ccX8_placeOf (l : Launch) (G : Gt) {a0 : Nat} {a1 : Nat} {a2 : Int32} {S : St} {res : (Int32 × St)} (k0 : kd a0 = 8) (k1 : kd a1 = 20) (h : fX8_placeOf a0 a1 a2 S = some res) : Met l yX8_placeOf (wm yX8_placeOf cX8_placeOf 4 (some .int)) (rmL 3 0 0) (PcW G S [.ref (gR G a0), .ref (gR G a1), .int a2]) (QI G res.1 res.2) 0 0 (Ab G) := by
  refine Met.ofW (cc := cX8_placeOf) (maxL := 4) (ret := (some .int)) (by decide) rfl ?_
  intro p e s m args below meth c s₁ B hml hv
  obtain ⟨rfl, hK, hP⟩ := hv
  have C : Cx p s m _ meth c cX8_placeOf 4 RX8 G := ⟨⟨B.exec, B.bytes, hml, findClass_of_methodNamed B.named, fun w hw => atoms_spec (ws := wm yX8_placeOf cX8_placeOf 4 (some .int)) B.pre w (List.mem_cons_of_mem _ hw)⟩, B.notSynchronized, hK⟩
  have hl := lv_entry ([.ref (gR G a0), .ref (gR G a1), .int a2]) (n := 4) (Nat.le_of_ble_eq_true rfl)
  rw [lg_entry_eq]
  generalize (lg_sl ([.ref (gR G a0), .ref (gR G a1), .int a2]) ++ List.replicate (4 - (lg_sl ([.ref (gR G a0), .ref (gR G a1), .int a2])).length) Slot.unset).toArray = ls at hl ⊢
  exact sfX8_placeOf C B.returns k0 k1 ⟨hP, va_S.rf⟩ hl h
def fX2_expectPart (a1 : Int32) (S : St) : Option St :=
  pz S 34 5 1 fun S => pz S 34 6 a1 fun S => pf S 34 4 0 fun S => some S
set_option maxHeartbeats 4000000 in
set_option maxRecDepth 20000 in
theorem sfX2_expectPart (C : Cx p s m args meth c cX2_expectPart 2 RX2 G) (hr : meth.sig.returnType = none) {a1 : Int32} {S : St} {res : St} {H : Heap} {locs : List Loc} {ls : Array Slot}  (hd : Dy G S s H locs) (hl : lv_has ls 2 [(0, .ref (gR G 34)), (1, .int a1)]) (h : fX2_expectPart a1 S = some res) : W p l e (rmL 3 0 0) s m args below meth c H locs 0 0 (MQ below (QV G res) args s 0 0 (Ab G)) (F0 m 0 ls []) := by
  unfold fX2_expectPart at h
  have hx := C.1.1
  have hb := C.1.2.1
  refine lv_aload_n hx hb dX2_expectPart_0 rfl (lv_at hl 0 rfl) ?_
  refine lv_iconst (v := 1) hx hb dX2_expectPart_1 (by decide) ?_
  refine pX2_36 C hd (rfl : kd 34 = 2) h dX2_expectPart_2 (fun S H locs hd h => ?_)
  refine lv_aload_n hx hb dX2_expectPart_5 rfl (lv_at hl 0 rfl) ?_
  refine lv_iload_n hx hb dX2_expectPart_6 rfl (lv_at hl 1 rfl) ?_
  refine pX2_56 C hd (rfl : kd 34 = 2) h dX2_expectPart_7 (fun S H locs hd h => ?_)
  refine lv_aload_n hx hb dX2_expectPart_10 rfl (lv_at hl 0 rfl) ?_
  refine lv_iconst (v := 0) hx hb dX2_expectPart_11 (by decide) ?_
  refine pX2_59 C hd (rfl : kd 34 = 2) h dX2_expectPart_12 (fun S H locs hd h => ?_)
  exact R_vret C hr hd h dX2_expectPart_15
set_option maxRecDepth 20000 in
theorem ccX2_expectPart (l : Launch) (G : Gt) {a1 : Int32} {S : St} {res : St}  (h : fX2_expectPart a1 S = some res) : Met l yX2_expectPart (wm yX2_expectPart cX2_expectPart 2 (none)) (rmL 3 0 0) (PcW G S [.ref (gR G 34), .int a1]) (QV G res) 0 0 (Ab G) := by
  refine Met.ofW (cc := cX2_expectPart) (maxL := 2) (ret := none) (by decide) rfl ?_
  intro p e s m args below meth c s₁ B hml hv
  obtain ⟨rfl, hK, hP⟩ := hv
  have C : Cx p s m _ meth c cX2_expectPart 2 RX2 G := ⟨⟨B.exec, B.bytes, hml, findClass_of_methodNamed B.named, fun w hw => atoms_spec (ws := wm yX2_expectPart cX2_expectPart 2 (none)) B.pre w (List.mem_cons_of_mem _ hw)⟩, B.notSynchronized, hK⟩
  have hl := lv_entry ([.ref (gR G 34), .int a1]) (n := 2) (Nat.le_of_ble_eq_true rfl)
  rw [lg_entry_eq]
  generalize (lg_sl ([.ref (gR G 34), .int a1]) ++ List.replicate (2 - (lg_sl ([.ref (gR G 34), .int a1])).length) Slot.unset).toArray = ls at hl ⊢
  exact sfX2_expectPart C B.returns  ⟨hP, va_S.rf⟩ hl h
def fX2_hold (a1 : Int32) (S : St) : Option St :=
  (if 96 ≤ (S 34 2) then some S else wr S 35 (S 34 2) a1 fun S => pf S 34 2 ((S 34 2) + 1) fun S => some S)
set_option maxHeartbeats 4000000 in
set_option maxRecDepth 20000 in
theorem sfX2_hold (C : Cx p s m args meth c cX2_hold 2 RX2 G) (hr : meth.sig.returnType = none) {a1 : Int32} {S : St} {res : St} {H : Heap} {locs : List Loc} {ls : Array Slot}  (hd : Dy G S s H locs) (hl : lv_has ls 2 [(0, .ref (gR G 34)), (1, .int a1)]) (h : fX2_hold a1 S = some res) : W p l e (rmL 3 0 0) s m args below meth c H locs 0 0 (MQ below (QV G res) args s 0 0 (Ab G)) (F0 m 0 ls []) := by
  unfold fX2_hold at h
  have hx := C.1.1
  have hb := C.1.2.1
  refine lv_aload_n hx hb dX2_hold_0 rfl (lv_at hl 0 rfl) ?_
  refine gX2_19 C hd (rfl : kd 34 = 2) dX2_hold_1 ?_
  refine lv_aload_n hx hb dX2_hold_4 rfl (lv_at hl 0 rfl) ?_
  refine gX2_9 C hd (rfl : kd 34 = 2) (q := 35) rfl dX2_hold_5 (fun y1 => ?_)
  refine R_alen C hd y1 (v := 96) rfl dX2_hold_8 ?_
  refine lv_icmp_ge (tgt := 32) hx hb dX2_hold_9 (by decide) (fun c2 => ?_) (fun c2 => ?_)
  · rw [if_pos c2] at h
    exact R_vret C hr hd h dX2_hold_32
  · rw [if_neg c2] at h
    refine lv_aload_n hx hb dX2_hold_12 rfl (lv_at hl 0 rfl) ?_
    refine gX2_9 C hd (rfl : kd 34 = 2) (q := 35) rfl dX2_hold_13 (fun y3 => ?_)
    refine lv_aload_n hx hb dX2_hold_16 rfl (lv_at hl 0 rfl) ?_
    refine gX2_19 C hd (rfl : kd 34 = 2) dX2_hold_17 ?_
    refine lv_iload_n hx hb dX2_hold_20 rfl (lv_at hl 1 rfl) ?_
    refine R_iast C hd y3 h dX2_hold_21 (fun S H locs hd h => ?_)
    refine lv_aload_n hx hb dX2_hold_22 rfl (lv_at hl 0 rfl) ?_
    refine lv_dup hx hb dX2_hold_23 rfl ?_
    refine gX2_19 C hd (rfl : kd 34 = 2) dX2_hold_24 ?_
    refine lv_iconst (v := 1) hx hb dX2_hold_27 (by decide) ?_
    refine lv_iadd hx hb dX2_hold_28 ?_
    refine pX2_19 C hd (rfl : kd 34 = 2) h dX2_hold_29 (fun S H locs hd h => ?_)
    exact R_vret C hr hd h dX2_hold_32
set_option maxRecDepth 20000 in
theorem ccX2_hold (l : Launch) (G : Gt) {a1 : Int32} {S : St} {res : St}  (h : fX2_hold a1 S = some res) : Met l yX2_hold (wm yX2_hold cX2_hold 2 (none)) (rmL 3 0 0) (PcW G S [.ref (gR G 34), .int a1]) (QV G res) 0 0 (Ab G) := by
  refine Met.ofW (cc := cX2_hold) (maxL := 2) (ret := none) (by decide) rfl ?_
  intro p e s m args below meth c s₁ B hml hv
  obtain ⟨rfl, hK, hP⟩ := hv
  have C : Cx p s m _ meth c cX2_hold 2 RX2 G := ⟨⟨B.exec, B.bytes, hml, findClass_of_methodNamed B.named, fun w hw => atoms_spec (ws := wm yX2_hold cX2_hold 2 (none)) B.pre w (List.mem_cons_of_mem _ hw)⟩, B.notSynchronized, hK⟩
  have hl := lv_entry ([.ref (gR G 34), .int a1]) (n := 2) (Nat.le_of_ble_eq_true rfl)
  rw [lg_entry_eq]
  generalize (lg_sl ([.ref (gR G 34), .int a1]) ++ List.replicate (2 - (lg_sl ([.ref (gR G 34), .int a1])).length) Slot.unset).toArray = ls at hl ⊢
  exact sfX2_hold C B.returns  ⟨hP, va_S.rf⟩ hl h
def fX2_operatorHere  (S : St) : Option (Int32 × St) :=
  (if S 33 3 = 1 then bd (fX7_is 15 S) fun x4 S => (if x4 = 0 then bd (fX7_is 16 S) fun x7 S => (if x7 = 0 then ri ((-1)) S else ri ((-3)) S) else ri ((-2)) S) else (if S 33 3 = 42 then ri ((-9)) S else (if S 33 3 = 43 then ri ((-7)) S else (if S 33 3 = 45 then ri ((-8)) S else (if S 33 3 = 47 then ri ((-10)) S else (if S 33 3 = 60 then ri ((-5)) S else (if S 33 3 = 61 then ri ((-6)) S else ri ((-1)) S)))))))
set_option maxHeartbeats 4000000 in
set_option maxRecDepth 20000 in
theorem sfX2_operatorHere (C : Cx p s m args meth c cX2_operatorHere 1 RX2 G) (hr : meth.sig.returnType = some .int)  {S : St} {res : (Int32 × St)} {H : Heap} {locs : List Loc} {ls : Array Slot}  (hd : Dy G S s H locs) (hl : lv_has ls 1 [(0, .ref (gR G 34))]) (h : fX2_operatorHere  S = some res) : W p l e (rmL 7 0 0) s m args below meth c H locs 0 0 (MQ below (QI G res.1 res.2) args s 0 0 (Ab G)) (F0 m 0 ls []) := by
  unfold fX2_operatorHere at h
  have hx := C.1.1
  have hb := C.1.2.1
  refine lv_aload_n hx hb dX2_operatorHere_0 rfl (lv_at hl 0 rfl) ?_
  refine gX2_15 C hd (rfl : kd 34 = 2) (q := 33) rfl dX2_operatorHere_1 (fun y1 => ?_)
  refine gX2_62 C hd y1 dX2_operatorHere_4 ?_
  by_cases c2 : S 33 3 = 1
  · rw [if_pos c2] at h
    refine lv_lookup (off := 65) (tgt := 72) hx hb dX2_operatorHere_7 (by decide) (by rw [c2] <;> rfl) (by decide) ?_
    refine lv_aload_n hx hb dX2_operatorHere_72 rfl (lv_at hl 0 rfl) ?_
    refine gX2_15 C hd (rfl : kd 34 = 2) (q := 33) rfl dX2_operatorHere_73 (fun y3 => ?_)
    refine va_ldcS hx hb C.1.2.2.2.1 (C.2.2.2.2.1 ("SongFields$Phrase", 121, "or", 15) (List.mem_of_getElem? (i := 17) rfl)) dX2_operatorHere_76 ?_
    obtain ⟨x4, S1, hc, h⟩ := bd_some h
    refine R_cVi C hd (ccX7_is l G  hc) kX2_74 rfl (by decide) y3 hl.1 ⟨by decide, by decide⟩ rfl rfl (Nat.le_of_ble_eq_true rfl) dX2_operatorHere_78 ⟨Nat.zero_le _, Nat.zero_le _⟩ (fun H locs hd => ?_)
    generalize S1 = S at h hd
    refine lv_if_eq (tgt := 89) hx hb dX2_operatorHere_81 (by decide) (fun c5 => ?_) (fun c5 => ?_)
    · rw [if_pos c5] at h
      refine lv_aload_n hx hb dX2_operatorHere_89 rfl (lv_at hl 0 rfl) ?_
      refine gX2_15 C hd (rfl : kd 34 = 2) (q := 33) rfl dX2_operatorHere_90 (fun y6 => ?_)
      refine va_ldcS hx hb C.1.2.2.2.1 (C.2.2.2.2.1 ("SongFields$Phrase", 123, "and", 16) (List.mem_of_getElem? (i := 18) rfl)) dX2_operatorHere_93 ?_
      obtain ⟨x7, S1, hc, h⟩ := bd_some h
      refine R_cVi C hd (ccX7_is l G  hc) kX2_74 rfl (by decide) y6 hl.1 ⟨by decide, by decide⟩ rfl rfl (Nat.le_of_ble_eq_true rfl) dX2_operatorHere_95 ⟨Nat.zero_le _, Nat.zero_le _⟩ (fun H locs hd => ?_)
      generalize S1 = S at h hd
      refine lv_if_eq (tgt := 106) hx hb dX2_operatorHere_98 (by decide) (fun c8 => ?_) (fun c8 => ?_)
      · rw [if_pos c8] at h
        refine lv_iconst (v := -1) hx hb dX2_operatorHere_106 (by decide) ?_
        exact R_iret C hr hd h dX2_operatorHere_107
      · rw [if_neg c8] at h
        refine lv_bipush (v := -3) hx hb dX2_operatorHere_101 (by decide) ?_
        refine lv_goto (tgt := 107) hx hb dX2_operatorHere_103 (by decide) ?_
        exact R_iret C hr hd h dX2_operatorHere_107
    · rw [if_neg c5] at h
      refine lv_bipush (v := -2) hx hb dX2_operatorHere_84 (by decide) ?_
      refine lv_goto (tgt := 107) hx hb dX2_operatorHere_86 (by decide) ?_
      exact R_iret C hr hd h dX2_operatorHere_107
  rw [if_neg c2] at h
  by_cases c9 : S 33 3 = 42
  · rw [if_pos c9] at h
    refine lv_lookup (off := 113) (tgt := 120) hx hb dX2_operatorHere_7 (by decide) (by rw [c9] <;> rfl) (by decide) ?_
    refine lv_bipush (v := -9) hx hb dX2_operatorHere_120 (by decide) ?_
    exact R_iret C hr hd h dX2_operatorHere_122
  rw [if_neg c9] at h
  by_cases c10 : S 33 3 = 43
  · rw [if_pos c10] at h
    refine lv_lookup (off := 107) (tgt := 114) hx hb dX2_operatorHere_7 (by decide) (by rw [c10] <;> rfl) (by decide) ?_
    refine lv_bipush (v := -7) hx hb dX2_operatorHere_114 (by decide) ?_
    exact R_iret C hr hd h dX2_operatorHere_116
  rw [if_neg c10] at h
  by_cases c11 : S 33 3 = 45
  · rw [if_pos c11] at h
    refine lv_lookup (off := 110) (tgt := 117) hx hb dX2_operatorHere_7 (by decide) (by rw [c11] <;> rfl) (by decide) ?_
    refine lv_bipush (v := -8) hx hb dX2_operatorHere_117 (by decide) ?_
    exact R_iret C hr hd h dX2_operatorHere_119
  rw [if_neg c11] at h
  by_cases c12 : S 33 3 = 47
  · rw [if_pos c12] at h
    refine lv_lookup (off := 116) (tgt := 123) hx hb dX2_operatorHere_7 (by decide) (by rw [c12] <;> rfl) (by decide) ?_
    refine lv_bipush (v := -10) hx hb dX2_operatorHere_123 (by decide) ?_
    exact R_iret C hr hd h dX2_operatorHere_125
  rw [if_neg c12] at h
  by_cases c13 : S 33 3 = 60
  · rw [if_pos c13] at h
    refine lv_lookup (off := 101) (tgt := 108) hx hb dX2_operatorHere_7 (by decide) (by rw [c13] <;> rfl) (by decide) ?_
    refine lv_bipush (v := -5) hx hb dX2_operatorHere_108 (by decide) ?_
    exact R_iret C hr hd h dX2_operatorHere_110
  rw [if_neg c13] at h
  by_cases c14 : S 33 3 = 61
  · rw [if_pos c14] at h
    refine lv_lookup (off := 104) (tgt := 111) hx hb dX2_operatorHere_7 (by decide) (by rw [c14] <;> rfl) (by decide) ?_
    refine lv_bipush (v := -6) hx hb dX2_operatorHere_111 (by decide) ?_
    exact R_iret C hr hd h dX2_operatorHere_113
  rw [if_neg c14] at h
  refine lv_lookup (off := 119) (tgt := 126) hx hb dX2_operatorHere_7 (by decide) (by rw [lv_osw (k := 1) c2 (by decide), lv_osw (k := 42) c9 (by decide), lv_osw (k := 43) c10 (by decide), lv_osw (k := 45) c11 (by decide), lv_osw (k := 47) c12 (by decide), lv_osw (k := 60) c13 (by decide), lv_osw (k := 61) c14 (by decide)] <;> rfl) (by decide) ?_
  refine lv_iconst (v := -1) hx hb dX2_operatorHere_126 (by decide) ?_
  exact R_iret C hr hd h dX2_operatorHere_127
set_option maxRecDepth 20000 in
theorem ccX2_operatorHere (l : Launch) (G : Gt)  {S : St} {res : (Int32 × St)}  (h : fX2_operatorHere  S = some res) : Met l yX2_operatorHere (wm yX2_operatorHere cX2_operatorHere 1 (some .int)) (rmL 7 0 0) (PcW G S [.ref (gR G 34)]) (QI G res.1 res.2) 0 0 (Ab G) := by
  refine Met.ofW (cc := cX2_operatorHere) (maxL := 1) (ret := (some .int)) (by decide) rfl ?_
  intro p e s m args below meth c s₁ B hml hv
  obtain ⟨rfl, hK, hP⟩ := hv
  have C : Cx p s m _ meth c cX2_operatorHere 1 RX2 G := ⟨⟨B.exec, B.bytes, hml, findClass_of_methodNamed B.named, fun w hw => atoms_spec (ws := wm yX2_operatorHere cX2_operatorHere 1 (some .int)) B.pre w (List.mem_cons_of_mem _ hw)⟩, B.notSynchronized, hK⟩
  have hl := lv_entry ([.ref (gR G 34)]) (n := 1) (Nat.le_of_ble_eq_true rfl)
  rw [lg_entry_eq]
  generalize (lg_sl ([.ref (gR G 34)]) ++ List.replicate (1 - (lg_sl ([.ref (gR G 34)])).length) Slot.unset).toArray = ls at hl ⊢
  exact sfX2_operatorHere C B.returns  ⟨hP, va_S.rf⟩ hl h
def fX2_rankOf (a0 : Int32) (S : St) : Option (Int32 × St) :=
  (if a0 = (-10) then ri 6 S else (if a0 = (-9) then ri 6 S else (if a0 = (-8) then ri 5 S else (if a0 = (-7) then ri 5 S else (if a0 = (-6) then ri 4 S else (if a0 = (-5) then ri 4 S else (if a0 = (-4) then ri 3 S else (if a0 = (-3) then ri 2 S else (if a0 = (-2) then ri 1 S else ri 0 S)))))))))
set_option maxHeartbeats 4000000 in
set_option maxRecDepth 20000 in
theorem sfX2_rankOf (C : Cx p s m args meth c cX2_rankOf 1 RX2 G) (hr : meth.sig.returnType = some .int) {a0 : Int32} {S : St} {res : (Int32 × St)} {H : Heap} {locs : List Loc} {ls : Array Slot}  (hd : Dy G S s H locs) (hl : lv_has ls 1 [(0, .int a0)]) (h : fX2_rankOf a0 S = some res) : W p l e (rmL 3 0 0) s m args below meth c H locs 0 0 (MQ below (QI G res.1 res.2) args s 0 0 (Ab G)) (F0 m 0 ls []) := by
  unfold fX2_rankOf at h
  have hx := C.1.1
  have hb := C.1.2.1
  refine lv_iload_n hx hb dX2_rankOf_0 rfl (lv_at hl 0 rfl) ?_
  by_cases c1 : a0 = (-10)
  · rw [if_pos c1] at h
    refine lv_tableIn (tgt := 62) hx hb dX2_rankOf_1 (by rw [c1]; decide) (by rw [c1]; decide) (by rw [c1] <;> rfl) (by decide) ?_
    refine lv_bipush (v := 6) hx hb dX2_rankOf_62 (by decide) ?_
    exact R_iret C hr hd h dX2_rankOf_64
  rw [if_neg c1] at h
  by_cases c2 : a0 = (-9)
  · rw [if_pos c2] at h
    refine lv_tableIn (tgt := 62) hx hb dX2_rankOf_1 (by rw [c2]; decide) (by rw [c2]; decide) (by rw [c2] <;> rfl) (by decide) ?_
    refine lv_bipush (v := 6) hx hb dX2_rankOf_62 (by decide) ?_
    exact R_iret C hr hd h dX2_rankOf_64
  rw [if_neg c2] at h
  by_cases c3 : a0 = (-8)
  · rw [if_pos c3] at h
    refine lv_tableIn (tgt := 60) hx hb dX2_rankOf_1 (by rw [c3]; decide) (by rw [c3]; decide) (by rw [c3] <;> rfl) (by decide) ?_
    refine lv_iconst (v := 5) hx hb dX2_rankOf_60 (by decide) ?_
    exact R_iret C hr hd h dX2_rankOf_61
  rw [if_neg c3] at h
  by_cases c4 : a0 = (-7)
  · rw [if_pos c4] at h
    refine lv_tableIn (tgt := 60) hx hb dX2_rankOf_1 (by rw [c4]; decide) (by rw [c4]; decide) (by rw [c4] <;> rfl) (by decide) ?_
    refine lv_iconst (v := 5) hx hb dX2_rankOf_60 (by decide) ?_
    exact R_iret C hr hd h dX2_rankOf_61
  rw [if_neg c4] at h
  by_cases c5 : a0 = (-6)
  · rw [if_pos c5] at h
    refine lv_tableIn (tgt := 58) hx hb dX2_rankOf_1 (by rw [c5]; decide) (by rw [c5]; decide) (by rw [c5] <;> rfl) (by decide) ?_
    refine lv_iconst (v := 4) hx hb dX2_rankOf_58 (by decide) ?_
    exact R_iret C hr hd h dX2_rankOf_59
  rw [if_neg c5] at h
  by_cases c6 : a0 = (-5)
  · rw [if_pos c6] at h
    refine lv_tableIn (tgt := 58) hx hb dX2_rankOf_1 (by rw [c6]; decide) (by rw [c6]; decide) (by rw [c6] <;> rfl) (by decide) ?_
    refine lv_iconst (v := 4) hx hb dX2_rankOf_58 (by decide) ?_
    exact R_iret C hr hd h dX2_rankOf_59
  rw [if_neg c6] at h
  by_cases c7 : a0 = (-4)
  · rw [if_pos c7] at h
    refine lv_tableIn (tgt := 56) hx hb dX2_rankOf_1 (by rw [c7]; decide) (by rw [c7]; decide) (by rw [c7] <;> rfl) (by decide) ?_
    refine lv_iconst (v := 3) hx hb dX2_rankOf_56 (by decide) ?_
    exact R_iret C hr hd h dX2_rankOf_57
  rw [if_neg c7] at h
  by_cases c8 : a0 = (-3)
  · rw [if_pos c8] at h
    refine lv_tableIn (tgt := 54) hx hb dX2_rankOf_1 (by rw [c8]; decide) (by rw [c8]; decide) (by rw [c8] <;> rfl) (by decide) ?_
    refine lv_iconst (v := 2) hx hb dX2_rankOf_54 (by decide) ?_
    exact R_iret C hr hd h dX2_rankOf_55
  rw [if_neg c8] at h
  by_cases c9 : a0 = (-2)
  · rw [if_pos c9] at h
    refine lv_tableIn (tgt := 52) hx hb dX2_rankOf_1 (by rw [c9]; decide) (by rw [c9]; decide) (by rw [c9] <;> rfl) (by decide) ?_
    refine lv_iconst (v := 1) hx hb dX2_rankOf_52 (by decide) ?_
    exact R_iret C hr hd h dX2_rankOf_53
  rw [if_neg c9] at h
  refine R_tab (tgt := 65) C dX2_rankOf_1 (by decide) [-10, -9, -8, -7, -6, -5, -4, -3, -2] (by decide) ?_ ?_
  · intro z hz; simp only [List.mem_cons, List.not_mem_nil, or_false] at hz; rcases hz with rfl | rfl | rfl | rfl | rfl | rfl | rfl | rfl | rfl <;> assumption
  refine lv_iconst (v := 0) hx hb dX2_rankOf_65 (by decide) ?_
  exact R_iret C hr hd h dX2_rankOf_66
set_option maxRecDepth 20000 in
theorem ccX2_rankOf (l : Launch) (G : Gt) {a0 : Int32} {S : St} {res : (Int32 × St)}  (h : fX2_rankOf a0 S = some res) : Met l yX2_rankOf (wm yX2_rankOf cX2_rankOf 1 (some .int)) (rmL 3 0 0) (PcW G S [.int a0]) (QI G res.1 res.2) 0 0 (Ab G) := by
  refine Met.ofW (cc := cX2_rankOf) (maxL := 1) (ret := (some .int)) (by decide) rfl ?_
  intro p e s m args below meth c s₁ B hml hv
  obtain ⟨rfl, hK, hP⟩ := hv
  have C : Cx p s m _ meth c cX2_rankOf 1 RX2 G := ⟨⟨B.exec, B.bytes, hml, findClass_of_methodNamed B.named, fun w hw => atoms_spec (ws := wm yX2_rankOf cX2_rankOf 1 (some .int)) B.pre w (List.mem_cons_of_mem _ hw)⟩, B.notSynchronized, hK⟩
  have hl := lv_entry ([.int a0]) (n := 1) (Nat.le_of_ble_eq_true rfl)
  rw [lg_entry_eq]
  generalize (lg_sl ([.int a0]) ++ List.replicate (1 - (lg_sl ([.int a0])).length) Slot.unset).toArray = ls at hl ⊢
  exact sfX2_rankOf C B.returns  ⟨hP, va_S.rf⟩ hl h
def KX2_release_0 (r0 : Nat → Int32 → St → Option St) (l1 : Nat) (l2 : Int32) (S : St) : Option St :=
  (if (S 34 2) ≤ 0 then some S else rd S 35 ((S 34 2) - 1) fun x3 => bd (fX2_rankOf x3 S) fun x4 S => (if x4 < l2 then some S else pf S 34 2 ((S 34 2) - 1) fun S => rd S 35 (S 34 2) fun x7 => bv (fX3_add l1 x7 S) fun S => (r0 l1 l2 S)))
set_option maxHeartbeats 4000000 in
set_option maxRecDepth 20000 in
theorem sKX2_release_0 (C : Cx p s m args meth c cX2_release 3 RX2 G) (hr : meth.sig.returnType = none) {r0 : Nat → Int32 → St → Option St} (hr0 : ∀ (l1 : Nat) (l2 : Int32) (S : St) (res : St) (H : Heap) (locs : List Loc) (ls : Array Slot), kd l1 = 3 → Dy G S s H locs → lv_has ls 3 [(0, .ref (gR G 34)), (1, .ref (gR G l1)), (2, .int l2)] → r0 l1 l2 S = some res → W p l e (rmL 4 0 0) s m args below meth c H locs 0 0 (MQ below (QV G res) args s 0 0 (Ab G)) (F0 m 0 ls [])) {l1 : Nat} {l2 : Int32} {S : St} {res : St} {H : Heap} {locs : List Loc} {ls : Array Slot} (kl1 : kd l1 = 3) (hd : Dy G S s H locs) (hl : lv_has ls 3 [(0, .ref (gR G 34)), (1, .ref (gR G l1)), (2, .int l2)]) (h : KX2_release_0 r0 l1 l2 S = some res) : W p l e (rmL 4 0 0) s m args below meth c H locs 0 0 (MQ below (QV G res) args s 0 0 (Ab G)) (F0 m 0 ls []) := by
  unfold KX2_release_0 at h
  have hx := C.1.1
  have hb := C.1.2.1
  refine lv_aload_n hx hb dX2_release_0 rfl (lv_at hl 0 rfl) ?_
  refine gX2_19 C hd (rfl : kd 34 = 2) dX2_release_1 ?_
  refine lv_if_le (tgt := 51) hx hb dX2_release_4 (by decide) (fun c1 => ?_) (fun c1 => ?_)
  · rw [if_pos c1] at h
    exact R_vret C hr hd h dX2_release_51
  · rw [if_neg c1] at h
    refine lv_aload_n hx hb dX2_release_7 rfl (lv_at hl 0 rfl) ?_
    refine gX2_9 C hd (rfl : kd 34 = 2) (q := 35) rfl dX2_release_8 (fun y2 => ?_)
    refine lv_aload_n hx hb dX2_release_11 rfl (lv_at hl 0 rfl) ?_
    refine gX2_19 C hd (rfl : kd 34 = 2) dX2_release_12 ?_
    refine lv_iconst (v := 1) hx hb dX2_release_15 (by decide) ?_
    refine lv_isub hx hb dX2_release_16 ?_
    refine R_iald C hd y2 h dX2_release_17 (fun x3 h => ?_)
    obtain ⟨x4, S1, hc, h⟩ := bd_some h
    refine R_cSi C hd (ccX2_rankOf l G  hc) kX2_117  hl.1 ⟨by decide, by decide⟩ rfl rfl (Nat.le_of_ble_eq_true rfl) dX2_release_18 ⟨Nat.zero_le _, Nat.zero_le _⟩ (fun H locs hd => ?_)
    generalize S1 = S at h hd
    refine lv_iload_n hx hb dX2_release_21 rfl (lv_at hl 2 rfl) ?_
    refine lv_icmp_lt (tgt := 51) hx hb dX2_release_22 (by decide) (fun c5 => ?_) (fun c5 => ?_)
    · rw [if_pos c5] at h
      exact R_vret C hr hd h dX2_release_51
    · rw [if_neg c5] at h
      refine lv_aload_n hx hb dX2_release_25 rfl (lv_at hl 0 rfl) ?_
      refine lv_dup hx hb dX2_release_26 rfl ?_
      refine gX2_19 C hd (rfl : kd 34 = 2) dX2_release_27 ?_
      refine lv_iconst (v := 1) hx hb dX2_release_30 (by decide) ?_
      refine lv_isub hx hb dX2_release_31 ?_
      refine pX2_19 C hd (rfl : kd 34 = 2) h dX2_release_32 (fun S H locs hd h => ?_)
      refine lv_aload_n hx hb dX2_release_35 rfl (lv_at hl 1 rfl) ?_
      refine lv_aload_n hx hb dX2_release_36 rfl (lv_at hl 0 rfl) ?_
      refine gX2_9 C hd (rfl : kd 34 = 2) (q := 35) rfl dX2_release_37 (fun y6 => ?_)
      refine lv_aload_n hx hb dX2_release_40 rfl (lv_at hl 0 rfl) ?_
      refine gX2_19 C hd (rfl : kd 34 = 2) dX2_release_41 ?_
      refine R_iald C hd y6 h dX2_release_44 (fun x7 h => ?_)
      obtain ⟨S1, hc, h⟩ := bv_some h
      refine R_cVv C hd (ccX3_add l G kl1 hc) kX2_89 rfl (by decide) kl1 hl.1 ⟨by decide, by decide⟩ rfl rfl (Nat.le_of_ble_eq_true rfl) dX2_release_45 ⟨Nat.zero_le _, Nat.zero_le _⟩ (fun H locs hd => ?_)
      generalize S1 = S at h hd
      refine lv_goto (tgt := 0) hx hb dX2_release_48 (by decide) ?_
      exact hr0 l1 l2 _ _ _ _ _ kl1 hd (lv_sub hl [0, 1, 2] rfl) h
def LX2_release_0 : Nat → Nat → Int32 → St → Option St
  | 0 => fun _ _ _ => none
  | n + 1 => fun l1 l2 S => KX2_release_0 (LX2_release_0 n) l1 l2 S
theorem sLX2_release_0 (C : Cx p s m args meth c cX2_release 3 RX2 G) (hr : meth.sig.returnType = none) : ∀ (n : Nat) (l1 : Nat) (l2 : Int32) (S : St) (res : St) (H : Heap) (locs : List Loc) (ls : Array Slot), kd l1 = 3 → Dy G S s H locs → lv_has ls 3 [(0, .ref (gR G 34)), (1, .ref (gR G l1)), (2, .int l2)] → LX2_release_0 n l1 l2 S = some res → W p l e (rmL 4 0 0) s m args below meth c H locs 0 0 (MQ below (QV G res) args s 0 0 (Ab G)) (F0 m 0 ls []) := by
  intro n
  induction n with
  | zero => intro l1 l2 S res H locs ls kl1 hd hl h; cases h
  | succ n ih =>
    intro l1 l2 S res H locs ls kl1 hd hl h
    exact sKX2_release_0 C hr ih kl1 hd hl h
def fX2_release (a1 : Nat) (a2 : Int32) (S : St) : Option St :=
  (LX2_release_0 FU a1 a2 S)
set_option maxHeartbeats 4000000 in
set_option maxRecDepth 20000 in
theorem sfX2_release (C : Cx p s m args meth c cX2_release 3 RX2 G) (hr : meth.sig.returnType = none) {a1 : Nat} {a2 : Int32} {S : St} {res : St} {H : Heap} {locs : List Loc} {ls : Array Slot} (k1 : kd a1 = 3) (hd : Dy G S s H locs) (hl : lv_has ls 3 [(0, .ref (gR G 34)), (1, .ref (gR G a1)), (2, .int a2)]) (h : fX2_release a1 a2 S = some res) : W p l e (rmL 4 0 0) s m args below meth c H locs 0 0 (MQ below (QV G res) args s 0 0 (Ab G)) (F0 m 0 ls []) := by
  unfold fX2_release at h
  have hx := C.1.1
  have hb := C.1.2.1
  exact sLX2_release_0 C hr _ a1 a2 _ _ _ _ _ k1 hd (lv_sub hl [0, 1, 2] rfl) h
set_option maxRecDepth 20000 in
theorem ccX2_release (l : Launch) (G : Gt) {a1 : Nat} {a2 : Int32} {S : St} {res : St} (k1 : kd a1 = 3) (h : fX2_release a1 a2 S = some res) : Met l yX2_release (wm yX2_release cX2_release 3 (none)) (rmL 4 0 0) (PcW G S [.ref (gR G 34), .ref (gR G a1), .int a2]) (QV G res) 0 0 (Ab G) := by
  refine Met.ofW (cc := cX2_release) (maxL := 3) (ret := none) (by decide) rfl ?_
  intro p e s m args below meth c s₁ B hml hv
  obtain ⟨rfl, hK, hP⟩ := hv
  have C : Cx p s m _ meth c cX2_release 3 RX2 G := ⟨⟨B.exec, B.bytes, hml, findClass_of_methodNamed B.named, fun w hw => atoms_spec (ws := wm yX2_release cX2_release 3 (none)) B.pre w (List.mem_cons_of_mem _ hw)⟩, B.notSynchronized, hK⟩
  have hl := lv_entry ([.ref (gR G 34), .ref (gR G a1), .int a2]) (n := 3) (Nat.le_of_ble_eq_true rfl)
  rw [lg_entry_eq]
  generalize (lg_sl ([.ref (gR G 34), .ref (gR G a1), .int a2]) ++ List.replicate (3 - (lg_sl ([.ref (gR G 34), .ref (gR G a1), .int a2])).length) Slot.unset).toArray = ls at hl ⊢
  exact sfX2_release C B.returns k1 ⟨hP, va_S.rf⟩ hl h
def BX2_readBehindPart_179 (s1 : Int32) (S : St) : Option (Int32 × St) :=
  bv (fX2_expectPart s1 S) fun S => ri 0 S
set_option maxHeartbeats 4000000 in
set_option maxRecDepth 20000 in
theorem sBX2_readBehindPart_179 (C : Cx p s m args meth c cX2_readBehindPart 5 RX2 G) (hr : meth.sig.returnType = some .int) {s1 : Int32} {S : St} {res : (Int32 × St)} {H : Heap} {locs : List Loc} {ls : Array Slot}  (hd : Dy G S s H locs) (hl : lv_has ls 5 [(0, .ref (gR G 34))]) (h : BX2_readBehindPart_179 s1 S = some res) : W p l e (rmL 8 0 0) s m args below meth c H locs 0 0 (MQ below (QI G res.1 res.2) args s 0 0 (Ab G)) (F0 m 179 ls [.int s1, .ref (gR G 34)]) := by
  unfold BX2_readBehindPart_179 at h
  have hx := C.1.1
  have hb := C.1.2.1
  obtain ⟨S1, hc, h⟩ := bv_some h
  refine R_cVv C hd (ccX2_expectPart l G  hc) kX2_32 rfl (by decide) (rfl : kd 34 = 2) hl.1 ⟨by decide, by decide⟩ rfl rfl (Nat.le_of_ble_eq_true rfl) dX2_readBehindPart_179 ⟨Nat.zero_le _, Nat.zero_le _⟩ (fun H locs hd => ?_)
  generalize S1 = S at h hd
  refine lv_iconst (v := 0) hx hb dX2_readBehindPart_182 (by decide) ?_
  exact R_iret C hr hd h dX2_readBehindPart_183
def BX2_readBehindPart_174  (S : St) : Option (Int32 × St) :=
  (BX2_readBehindPart_179 1 S)
set_option maxHeartbeats 4000000 in
set_option maxRecDepth 20000 in
theorem sBX2_readBehindPart_174 (C : Cx p s m args meth c cX2_readBehindPart 5 RX2 G) (hr : meth.sig.returnType = some .int)  {S : St} {res : (Int32 × St)} {H : Heap} {locs : List Loc} {ls : Array Slot}  (hd : Dy G S s H locs) (hl : lv_has ls 5 [(0, .ref (gR G 34))]) (h : BX2_readBehindPart_174  S = some res) : W p l e (rmL 8 0 0) s m args below meth c H locs 0 0 (MQ below (QI G res.1 res.2) args s 0 0 (Ab G)) (F0 m 174 ls [.ref (gR G 34)]) := by
  unfold BX2_readBehindPart_174 at h
  have hx := C.1.1
  have hb := C.1.2.1
  refine lv_iconst (v := 1) hx hb dX2_readBehindPart_174 (by decide) ?_
  refine lv_goto (tgt := 179) hx hb dX2_readBehindPart_175 (by decide) ?_
  exact sBX2_readBehindPart_179 C hr  hd (lv_sub hl [0] rfl) h
def BX2_readBehindPart_156 (l2 : Int32) (S : St) : Option (Int32 × St) :=
  bv (fX2_hold l2 S) fun S => (if l2 = (-2) then (BX2_readBehindPart_174  S) else (if l2 = (-3) then (BX2_readBehindPart_174  S) else (BX2_readBehindPart_179 0 S)))
set_option maxHeartbeats 4000000 in
set_option maxRecDepth 20000 in
theorem sBX2_readBehindPart_156 (C : Cx p s m args meth c cX2_readBehindPart 5 RX2 G) (hr : meth.sig.returnType = some .int) {l2 : Int32} {S : St} {res : (Int32 × St)} {H : Heap} {locs : List Loc} {ls : Array Slot}  (hd : Dy G S s H locs) (hl : lv_has ls 5 [(0, .ref (gR G 34)), (2, .int l2)]) (h : BX2_readBehindPart_156 l2 S = some res) : W p l e (rmL 8 0 0) s m args below meth c H locs 0 0 (MQ below (QI G res.1 res.2) args s 0 0 (Ab G)) (F0 m 156 ls []) := by
  unfold BX2_readBehindPart_156 at h
  have hx := C.1.1
  have hb := C.1.2.1
  refine lv_aload_n hx hb dX2_readBehindPart_156 rfl (lv_at hl 0 rfl) ?_
  refine lv_iload_n hx hb dX2_readBehindPart_157 rfl (lv_at hl 1 rfl) ?_
  obtain ⟨S1, hc, h⟩ := bv_some h
  refine R_cVv C hd (ccX2_hold l G  hc) kX2_69 rfl (by decide) (rfl : kd 34 = 2) hl.1 ⟨by decide, by decide⟩ rfl rfl (Nat.le_of_ble_eq_true rfl) dX2_readBehindPart_158 ⟨Nat.zero_le _, Nat.zero_le _⟩ (fun H locs hd => ?_)
  generalize S1 = S at h hd
  refine lv_aload_n hx hb dX2_readBehindPart_161 rfl (lv_at hl 0 rfl) ?_
  refine lv_iload_n hx hb dX2_readBehindPart_162 rfl (lv_at hl 1 rfl) ?_
  refine lv_bipush (v := -2) hx hb dX2_readBehindPart_163 (by decide) ?_
  refine lv_icmp_eq (tgt := 174) hx hb dX2_readBehindPart_165 (by decide) (fun c1 => ?_) (fun c1 => ?_)
  · rw [if_pos c1] at h
    exact sBX2_readBehindPart_174 C hr  hd (lv_sub hl [0] rfl) h
  · rw [if_neg c1] at h
    refine lv_iload_n hx hb dX2_readBehindPart_168 rfl (lv_at hl 1 rfl) ?_
    refine lv_bipush (v := -3) hx hb dX2_readBehindPart_169 (by decide) ?_
    refine lv_icmp_ne (tgt := 178) hx hb dX2_readBehindPart_171 (by decide) (fun c2 => ?_) (fun c2 => ?_)
    · rw [if_neg c2] at h
      refine lv_iconst (v := 0) hx hb dX2_readBehindPart_178 (by decide) ?_
      exact sBX2_readBehindPart_179 C hr  hd (lv_sub hl [0] rfl) h
    · rw [if_pos c2] at h
      exact sBX2_readBehindPart_174 C hr  hd (lv_sub hl [0] rfl) h
def BX2_readBehindPart_121 (l2 : Int32) (l3 : Int32) (l4 : Int32) (s1 : Nat) (s2 : Int32) (S : St) : Option (Int32 × St) :=
  bv (fX2_release s1 s2 S) fun S => (if l4 = 0 then (BX2_readBehindPart_156 l2 S) else (if (S 34 2) ≤ 0 then (BX2_readBehindPart_156 l2 S) else rd S 35 ((S 34 2) - 1) fun x4 => bd (fX2_rankOf x4 S) fun x5 S => (if x5 = l3 then ri 1 S else (BX2_readBehindPart_156 l2 S))))
set_option maxHeartbeats 4000000 in
set_option maxRecDepth 20000 in
theorem sBX2_readBehindPart_121 (C : Cx p s m args meth c cX2_readBehindPart 5 RX2 G) (hr : meth.sig.returnType = some .int) {l2 : Int32} {l3 : Int32} {l4 : Int32} {s1 : Nat} {s2 : Int32} {S : St} {res : (Int32 × St)} {H : Heap} {locs : List Loc} {ls : Array Slot} (ks1 : kd s1 = 3) (hd : Dy G S s H locs) (hl : lv_has ls 5 [(0, .ref (gR G 34)), (2, .int l2), (3, .int l3), (4, .int l4)]) (h : BX2_readBehindPart_121 l2 l3 l4 s1 s2 S = some res) : W p l e (rmL 8 0 0) s m args below meth c H locs 0 0 (MQ below (QI G res.1 res.2) args s 0 0 (Ab G)) (F0 m 121 ls [.int s2, .ref (gR G s1), .ref (gR G 34)]) := by
  unfold BX2_readBehindPart_121 at h
  have hx := C.1.1
  have hb := C.1.2.1
  obtain ⟨S1, hc, h⟩ := bv_some h
  refine R_cVv C hd (ccX2_release l G ks1 hc) kX2_110 rfl (by decide) (rfl : kd 34 = 2) hl.1 ⟨by decide, by decide⟩ rfl rfl (Nat.le_of_ble_eq_true rfl) dX2_readBehindPart_121 ⟨Nat.zero_le _, Nat.zero_le _⟩ (fun H locs hd => ?_)
  generalize S1 = S at h hd
  refine lv_iload hx hb dX2_readBehindPart_124 (lv_at hl 3 rfl) ?_
  refine lv_if_eq (tgt := 156) hx hb dX2_readBehindPart_126 (by decide) (fun c1 => ?_) (fun c1 => ?_)
  · rw [if_pos c1] at h
    exact sBX2_readBehindPart_156 C hr  hd (lv_sub hl [0, 1] rfl) h
  · rw [if_neg c1] at h
    refine lv_aload_n hx hb dX2_readBehindPart_129 rfl (lv_at hl 0 rfl) ?_
    refine gX2_19 C hd (rfl : kd 34 = 2) dX2_readBehindPart_130 ?_
    refine lv_if_le (tgt := 156) hx hb dX2_readBehindPart_133 (by decide) (fun c2 => ?_) (fun c2 => ?_)
    · rw [if_pos c2] at h
      exact sBX2_readBehindPart_156 C hr  hd (lv_sub hl [0, 1] rfl) h
    · rw [if_neg c2] at h
      refine lv_aload_n hx hb dX2_readBehindPart_136 rfl (lv_at hl 0 rfl) ?_
      refine gX2_9 C hd (rfl : kd 34 = 2) (q := 35) rfl dX2_readBehindPart_137 (fun y3 => ?_)
      refine lv_aload_n hx hb dX2_readBehindPart_140 rfl (lv_at hl 0 rfl) ?_
      refine gX2_19 C hd (rfl : kd 34 = 2) dX2_readBehindPart_141 ?_
      refine lv_iconst (v := 1) hx hb dX2_readBehindPart_144 (by decide) ?_
      refine lv_isub hx hb dX2_readBehindPart_145 ?_
      refine R_iald C hd y3 h dX2_readBehindPart_146 (fun x4 h => ?_)
      obtain ⟨x5, S1, hc, h⟩ := bd_some h
      refine R_cSi C hd (ccX2_rankOf l G  hc) kX2_117  hl.1 ⟨by decide, by decide⟩ rfl rfl (Nat.le_of_ble_eq_true rfl) dX2_readBehindPart_147 ⟨Nat.zero_le _, Nat.zero_le _⟩ (fun H locs hd => ?_)
      generalize S1 = S at h hd
      refine lv_iload_n hx hb dX2_readBehindPart_150 rfl (lv_at hl 2 rfl) ?_
      refine lv_icmp_ne (tgt := 156) hx hb dX2_readBehindPart_151 (by decide) (fun c6 => ?_) (fun c6 => ?_)
      · rw [if_neg c6] at h
        exact sBX2_readBehindPart_156 C hr  hd (lv_sub hl [0, 1] rfl) h
      · rw [if_pos c6] at h
        refine lv_iconst (v := 1) hx hb dX2_readBehindPart_154 (by decide) ?_
        exact R_iret C hr hd h dX2_readBehindPart_155
def BX2_readBehindPart_105 (l1 : Nat) (l2 : Int32) (l3 : Int32) (s0 : Int32) (S : St) : Option (Int32 × St) :=
  (if s0 = 0 then (BX2_readBehindPart_121 l2 l3 s0 l1 l3 S) else (BX2_readBehindPart_121 l2 l3 s0 l1 (l3 + 1) S))
set_option maxHeartbeats 4000000 in
set_option maxRecDepth 20000 in
theorem sBX2_readBehindPart_105 (C : Cx p s m args meth c cX2_readBehindPart 5 RX2 G) (hr : meth.sig.returnType = some .int) {l1 : Nat} {l2 : Int32} {l3 : Int32} {s0 : Int32} {S : St} {res : (Int32 × St)} {H : Heap} {locs : List Loc} {ls : Array Slot} (kl1 : kd l1 = 3) (hd : Dy G S s H locs) (hl : lv_has ls 5 [(0, .ref (gR G 34)), (1, .ref (gR G l1)), (2, .int l2), (3, .int l3)]) (h : BX2_readBehindPart_105 l1 l2 l3 s0 S = some res) : W p l e (rmL 8 0 0) s m args below meth c H locs 0 0 (MQ below (QI G res.1 res.2) args s 0 0 (Ab G)) (F0 m 105 ls [.int s0]) := by
  unfold BX2_readBehindPart_105 at h
  have hx := C.1.1
  have hb := C.1.2.1
  refine lv_istore (lv' := [(4, .int s0), (0, .ref (gR G 34)), (1, .ref (gR G l1)), (2, .int l2), (3, .int l3)]) hx hb dX2_readBehindPart_105 hl (by decide) rfl (fun ls hl => ?_)
  refine lv_aload_n hx hb dX2_readBehindPart_107 rfl (lv_at hl 1 rfl) ?_
  refine lv_aload_n hx hb dX2_readBehindPart_108 rfl (lv_at hl 2 rfl) ?_
  refine lv_iload hx hb dX2_readBehindPart_109 (lv_at hl 0 rfl) ?_
  refine lv_if_eq (tgt := 120) hx hb dX2_readBehindPart_111 (by decide) (fun c1 => ?_) (fun c1 => ?_)
  · rw [if_pos c1] at h
    refine lv_iload_n hx hb dX2_readBehindPart_120 rfl (lv_at hl 4 rfl) ?_
    exact sBX2_readBehindPart_121 C hr kl1 hd (lv_sub hl [1, 3, 4, 0] rfl) h
  · rw [if_neg c1] at h
    refine lv_iload_n hx hb dX2_readBehindPart_114 rfl (lv_at hl 4 rfl) ?_
    refine lv_iconst (v := 1) hx hb dX2_readBehindPart_115 (by decide) ?_
    refine lv_iadd hx hb dX2_readBehindPart_116 ?_
    refine lv_goto (tgt := 121) hx hb dX2_readBehindPart_117 (by decide) ?_
    exact sBX2_readBehindPart_121 C hr kl1 hd (lv_sub hl [1, 3, 4, 0] rfl) h
def BX2_readBehindPart_74 (l1 : Nat) (S : St) : Option (Int32 × St) :=
  bd (fX2_operatorHere  S) fun x1 S => (if x1 = (-1) then ri 1 S else bd (fX2_rankOf x1 S) fun x3 S => bd (fX2_rankOf ((-5)) S) fun x4 S => (if x3 = x4 then (BX2_readBehindPart_105 l1 x1 x3 1 S) else (BX2_readBehindPart_105 l1 x1 x3 0 S)))
set_option maxHeartbeats 4000000 in
set_option maxRecDepth 20000 in
theorem sBX2_readBehindPart_74 (C : Cx p s m args meth c cX2_readBehindPart 5 RX2 G) (hr : meth.sig.returnType = some .int) {l1 : Nat} {S : St} {res : (Int32 × St)} {H : Heap} {locs : List Loc} {ls : Array Slot} (kl1 : kd l1 = 3) (hd : Dy G S s H locs) (hl : lv_has ls 5 [(0, .ref (gR G 34)), (1, .ref (gR G l1))]) (h : BX2_readBehindPart_74 l1 S = some res) : W p l e (rmL 8 0 0) s m args below meth c H locs 0 0 (MQ below (QI G res.1 res.2) args s 0 0 (Ab G)) (F0 m 74 ls []) := by
  unfold BX2_readBehindPart_74 at h
  have hx := C.1.1
  have hb := C.1.2.1
  refine lv_aload_n hx hb dX2_readBehindPart_74 rfl (lv_at hl 0 rfl) ?_
  obtain ⟨x1, S1, hc, h⟩ := bd_some h
  refine R_cVi C hd (ccX2_operatorHere l G  hc) kX2_114 rfl (by decide) (rfl : kd 34 = 2) hl.1 ⟨by decide, by decide⟩ rfl rfl (Nat.le_of_ble_eq_true rfl) dX2_readBehindPart_75 ⟨Nat.zero_le _, Nat.zero_le _⟩ (fun H locs hd => ?_)
  generalize S1 = S at h hd
  refine lv_istore_n (lv' := [(2, .int x1), (0, .ref (gR G 34)), (1, .ref (gR G l1))]) hx hb dX2_readBehindPart_78 rfl hl (by decide) rfl (fun ls hl => ?_)
  refine lv_iload_n hx hb dX2_readBehindPart_79 rfl (lv_at hl 0 rfl) ?_
  refine lv_iconst (v := -1) hx hb dX2_readBehindPart_80 (by decide) ?_
  refine lv_icmp_ne (tgt := 86) hx hb dX2_readBehindPart_81 (by decide) (fun c2 => ?_) (fun c2 => ?_)
  · rw [if_neg c2] at h
    refine lv_iload_n hx hb dX2_readBehindPart_86 rfl (lv_at hl 0 rfl) ?_
    obtain ⟨x3, S1, hc, h⟩ := bd_some h
    refine R_cSi C hd (ccX2_rankOf l G  hc) kX2_117  hl.1 ⟨by decide, by decide⟩ rfl rfl (Nat.le_of_ble_eq_true rfl) dX2_readBehindPart_87 ⟨Nat.zero_le _, Nat.zero_le _⟩ (fun H locs hd => ?_)
    generalize S1 = S at h hd
    refine lv_istore_n (lv' := [(3, .int x3), (2, .int x1), (0, .ref (gR G 34)), (1, .ref (gR G l1))]) hx hb dX2_readBehindPart_90 rfl hl (by decide) rfl (fun ls hl => ?_)
    refine lv_iload_n hx hb dX2_readBehindPart_91 rfl (lv_at hl 0 rfl) ?_
    refine lv_bipush (v := -5) hx hb dX2_readBehindPart_92 (by decide) ?_
    obtain ⟨x4, S1, hc, h⟩ := bd_some h
    refine R_cSi C hd (ccX2_rankOf l G  hc) kX2_117  hl.1 ⟨by decide, by decide⟩ rfl rfl (Nat.le_of_ble_eq_true rfl) dX2_readBehindPart_94 ⟨Nat.zero_le _, Nat.zero_le _⟩ (fun H locs hd => ?_)
    generalize S1 = S at h hd
    refine lv_icmp_ne (tgt := 104) hx hb dX2_readBehindPart_97 (by decide) (fun c5 => ?_) (fun c5 => ?_)
    · rw [if_neg c5] at h
      refine lv_iconst (v := 0) hx hb dX2_readBehindPart_104 (by decide) ?_
      exact sBX2_readBehindPart_105 C hr kl1 hd (lv_sub hl [2, 3, 1, 0] rfl) h
    · rw [if_pos c5] at h
      refine lv_iconst (v := 1) hx hb dX2_readBehindPart_100 (by decide) ?_
      refine lv_goto (tgt := 105) hx hb dX2_readBehindPart_101 (by decide) ?_
      exact sBX2_readBehindPart_105 C hr kl1 hd (lv_sub hl [2, 3, 1, 0] rfl) h
  · rw [if_pos c2] at h
    refine lv_iconst (v := 1) hx hb dX2_readBehindPart_84 (by decide) ?_
    exact R_iret C hr hd h dX2_readBehindPart_85
def BX2_readBehindPart_47 (l1 : Nat) (S : St) : Option (Int32 × St) :=
  (if (S 33 3) = 59 then (if (S 34 3) = 0 then bv (fX2_release l1 1 S) fun S => ri ((-1)) S else (BX2_readBehindPart_74 l1 S)) else (BX2_readBehindPart_74 l1 S))
set_option maxHeartbeats 4000000 in
set_option maxRecDepth 20000 in
theorem sBX2_readBehindPart_47 (C : Cx p s m args meth c cX2_readBehindPart 5 RX2 G) (hr : meth.sig.returnType = some .int) {l1 : Nat} {S : St} {res : (Int32 × St)} {H : Heap} {locs : List Loc} {ls : Array Slot} (kl1 : kd l1 = 3) (hd : Dy G S s H locs) (hl : lv_has ls 5 [(0, .ref (gR G 34)), (1, .ref (gR G l1))]) (h : BX2_readBehindPart_47 l1 S = some res) : W p l e (rmL 8 0 0) s m args below meth c H locs 0 0 (MQ below (QI G res.1 res.2) args s 0 0 (Ab G)) (F0 m 47 ls []) := by
  unfold BX2_readBehindPart_47 at h
  have hx := C.1.1
  have hb := C.1.2.1
  refine lv_aload_n hx hb dX2_readBehindPart_47 rfl (lv_at hl 0 rfl) ?_
  refine gX2_15 C hd (rfl : kd 34 = 2) (q := 33) rfl dX2_readBehindPart_48 (fun y1 => ?_)
  refine gX2_62 C hd y1 dX2_readBehindPart_51 ?_
  refine lv_bipush (v := 59) hx hb dX2_readBehindPart_54 (by decide) ?_
  refine lv_icmp_ne (tgt := 74) hx hb dX2_readBehindPart_56 (by decide) (fun c2 => ?_) (fun c2 => ?_)
  · rw [if_neg c2] at h
    exact sBX2_readBehindPart_74 C hr kl1 hd (lv_sub hl [0, 1] rfl) h
  · rw [if_pos c2] at h
    refine lv_aload_n hx hb dX2_readBehindPart_59 rfl (lv_at hl 0 rfl) ?_
    refine gX2_23 C hd (rfl : kd 34 = 2) dX2_readBehindPart_60 ?_
    refine lv_if_ne (tgt := 74) hx hb dX2_readBehindPart_63 (by decide) (fun c3 => ?_) (fun c3 => ?_)
    · rw [if_neg c3] at h
      exact sBX2_readBehindPart_74 C hr kl1 hd (lv_sub hl [0, 1] rfl) h
    · rw [if_pos c3] at h
      refine lv_aload_n hx hb dX2_readBehindPart_66 rfl (lv_at hl 0 rfl) ?_
      refine lv_aload_n hx hb dX2_readBehindPart_67 rfl (lv_at hl 1 rfl) ?_
      refine lv_iconst (v := 1) hx hb dX2_readBehindPart_68 (by decide) ?_
      obtain ⟨S1, hc, h⟩ := bv_some h
      refine R_cVv C hd (ccX2_release l G kl1 hc) kX2_110 rfl (by decide) (rfl : kd 34 = 2) hl.1 ⟨by decide, by decide⟩ rfl rfl (Nat.le_of_ble_eq_true rfl) dX2_readBehindPart_69 ⟨Nat.zero_le _, Nat.zero_le _⟩ (fun H locs hd => ?_)
      generalize S1 = S at h hd
      refine lv_iconst (v := -1) hx hb dX2_readBehindPart_72 (by decide) ?_
      exact R_iret C hr hd h dX2_readBehindPart_73
def fX2_readBehindPart (a1 : Nat) (S : St) : Option (Int32 × St) :=
  (if (S 33 3) = 41 then (if (S 34 3) ≤ 0 then (BX2_readBehindPart_47 a1 S) else bv (fX2_release a1 1 S) fun S => pf S 34 2 ((S 34 2) - 1) fun S => pf S 34 3 ((S 34 3) - 1) fun S => ri 0 S) else (BX2_readBehindPart_47 a1 S))
set_option maxHeartbeats 4000000 in
set_option maxRecDepth 20000 in
theorem sfX2_readBehindPart (C : Cx p s m args meth c cX2_readBehindPart 5 RX2 G) (hr : meth.sig.returnType = some .int) {a1 : Nat} {S : St} {res : (Int32 × St)} {H : Heap} {locs : List Loc} {ls : Array Slot} (k1 : kd a1 = 3) (hd : Dy G S s H locs) (hl : lv_has ls 5 [(0, .ref (gR G 34)), (1, .ref (gR G a1))]) (h : fX2_readBehindPart a1 S = some res) : W p l e (rmL 8 0 0) s m args below meth c H locs 0 0 (MQ below (QI G res.1 res.2) args s 0 0 (Ab G)) (F0 m 0 ls []) := by
  unfold fX2_readBehindPart at h
  have hx := C.1.1
  have hb := C.1.2.1
  refine lv_aload_n hx hb dX2_readBehindPart_0 rfl (lv_at hl 0 rfl) ?_
  refine gX2_15 C hd (rfl : kd 34 = 2) (q := 33) rfl dX2_readBehindPart_1 (fun y1 => ?_)
  refine gX2_62 C hd y1 dX2_readBehindPart_4 ?_
  refine lv_bipush (v := 41) hx hb dX2_readBehindPart_7 (by decide) ?_
  refine lv_icmp_ne (tgt := 47) hx hb dX2_readBehindPart_9 (by decide) (fun c2 => ?_) (fun c2 => ?_)
  · rw [if_neg c2] at h
    exact sBX2_readBehindPart_47 C hr k1 hd (lv_sub hl [0, 1] rfl) h
  · rw [if_pos c2] at h
    refine lv_aload_n hx hb dX2_readBehindPart_12 rfl (lv_at hl 0 rfl) ?_
    refine gX2_23 C hd (rfl : kd 34 = 2) dX2_readBehindPart_13 ?_
    refine lv_if_le (tgt := 47) hx hb dX2_readBehindPart_16 (by decide) (fun c3 => ?_) (fun c3 => ?_)
    · rw [if_pos c3] at h
      exact sBX2_readBehindPart_47 C hr k1 hd (lv_sub hl [0, 1] rfl) h
    · rw [if_neg c3] at h
      refine lv_aload_n hx hb dX2_readBehindPart_19 rfl (lv_at hl 0 rfl) ?_
      refine lv_aload_n hx hb dX2_readBehindPart_20 rfl (lv_at hl 1 rfl) ?_
      refine lv_iconst (v := 1) hx hb dX2_readBehindPart_21 (by decide) ?_
      obtain ⟨S1, hc, h⟩ := bv_some h
      refine R_cVv C hd (ccX2_release l G k1 hc) kX2_110 rfl (by decide) (rfl : kd 34 = 2) hl.1 ⟨by decide, by decide⟩ rfl rfl (Nat.le_of_ble_eq_true rfl) dX2_readBehindPart_22 ⟨Nat.zero_le _, Nat.zero_le _⟩ (fun H locs hd => ?_)
      generalize S1 = S at h hd
      refine lv_aload_n hx hb dX2_readBehindPart_25 rfl (lv_at hl 0 rfl) ?_
      refine lv_dup hx hb dX2_readBehindPart_26 rfl ?_
      refine gX2_19 C hd (rfl : kd 34 = 2) dX2_readBehindPart_27 ?_
      refine lv_iconst (v := 1) hx hb dX2_readBehindPart_30 (by decide) ?_
      refine lv_isub hx hb dX2_readBehindPart_31 ?_
      refine pX2_19 C hd (rfl : kd 34 = 2) h dX2_readBehindPart_32 (fun S H locs hd h => ?_)
      refine lv_aload_n hx hb dX2_readBehindPart_35 rfl (lv_at hl 0 rfl) ?_
      refine lv_dup hx hb dX2_readBehindPart_36 rfl ?_
      refine gX2_23 C hd (rfl : kd 34 = 2) dX2_readBehindPart_37 ?_
      refine lv_iconst (v := 1) hx hb dX2_readBehindPart_40 (by decide) ?_
      refine lv_isub hx hb dX2_readBehindPart_41 ?_
      refine pX2_23 C hd (rfl : kd 34 = 2) h dX2_readBehindPart_42 (fun S H locs hd h => ?_)
      refine lv_iconst (v := 0) hx hb dX2_readBehindPart_45 (by decide) ?_
      exact R_iret C hr hd h dX2_readBehindPart_46
set_option maxRecDepth 20000 in
theorem ccX2_readBehindPart (l : Launch) (G : Gt) {a1 : Nat} {S : St} {res : (Int32 × St)} (k1 : kd a1 = 3) (h : fX2_readBehindPart a1 S = some res) : Met l yX2_readBehindPart (wm yX2_readBehindPart cX2_readBehindPart 5 (some .int)) (rmL 8 0 0) (PcW G S [.ref (gR G 34), .ref (gR G a1)]) (QI G res.1 res.2) 0 0 (Ab G) := by
  refine Met.ofW (cc := cX2_readBehindPart) (maxL := 5) (ret := (some .int)) (by decide) rfl ?_
  intro p e s m args below meth c s₁ B hml hv
  obtain ⟨rfl, hK, hP⟩ := hv
  have C : Cx p s m _ meth c cX2_readBehindPart 5 RX2 G := ⟨⟨B.exec, B.bytes, hml, findClass_of_methodNamed B.named, fun w hw => atoms_spec (ws := wm yX2_readBehindPart cX2_readBehindPart 5 (some .int)) B.pre w (List.mem_cons_of_mem _ hw)⟩, B.notSynchronized, hK⟩
  have hl := lv_entry ([.ref (gR G 34), .ref (gR G a1)]) (n := 5) (Nat.le_of_ble_eq_true rfl)
  rw [lg_entry_eq]
  generalize (lg_sl ([.ref (gR G 34), .ref (gR G a1)]) ++ List.replicate (5 - (lg_sl ([.ref (gR G 34), .ref (gR G a1)])).length) Slot.unset).toArray = ls at hl ⊢
  exact sfX2_readBehindPart C B.returns k1 ⟨hP, va_S.rf⟩ hl h
def fX2_readNot  (S : St) : Option (Int32 × St) :=
  (if (S 34 4) < 6 then pf S 34 4 ((S 34 4) + 1) fun S => bv (fX2_hold ((-4)) S) fun S => ri 0 S else ri 2 S)
set_option maxHeartbeats 4000000 in
set_option maxRecDepth 20000 in
theorem sfX2_readNot (C : Cx p s m args meth c cX2_readNot 1 RX2 G) (hr : meth.sig.returnType = some .int)  {S : St} {res : (Int32 × St)} {H : Heap} {locs : List Loc} {ls : Array Slot}  (hd : Dy G S s H locs) (hl : lv_has ls 1 [(0, .ref (gR G 34))]) (h : fX2_readNot  S = some res) : W p l e (rmL 4 0 0) s m args below meth c H locs 0 0 (MQ below (QI G res.1 res.2) args s 0 0 (Ab G)) (F0 m 0 ls []) := by
  unfold fX2_readNot at h
  have hx := C.1.1
  have hb := C.1.2.1
  refine lv_aload_n hx hb dX2_readNot_0 rfl (lv_at hl 0 rfl) ?_
  refine gX2_59 C hd (rfl : kd 34 = 2) dX2_readNot_1 ?_
  refine lv_bipush (v := 6) hx hb dX2_readNot_4 (by decide) ?_
  refine lv_icmp_lt (tgt := 11) hx hb dX2_readNot_6 (by decide) (fun c1 => ?_) (fun c1 => ?_)
  · rw [if_pos c1] at h
    refine lv_aload_n hx hb dX2_readNot_11 rfl (lv_at hl 0 rfl) ?_
    refine lv_dup hx hb dX2_readNot_12 rfl ?_
    refine gX2_59 C hd (rfl : kd 34 = 2) dX2_readNot_13 ?_
    refine lv_iconst (v := 1) hx hb dX2_readNot_16 (by decide) ?_
    refine lv_iadd hx hb dX2_readNot_17 ?_
    refine pX2_59 C hd (rfl : kd 34 = 2) h dX2_readNot_18 (fun S H locs hd h => ?_)
    refine lv_aload_n hx hb dX2_readNot_21 rfl (lv_at hl 0 rfl) ?_
    refine lv_bipush (v := -4) hx hb dX2_readNot_22 (by decide) ?_
    obtain ⟨S1, hc, h⟩ := bv_some h
    refine R_cVv C hd (ccX2_hold l G  hc) kX2_69 rfl (by decide) (rfl : kd 34 = 2) hl.1 ⟨by decide, by decide⟩ rfl rfl (Nat.le_of_ble_eq_true rfl) dX2_readNot_24 ⟨Nat.zero_le _, Nat.zero_le _⟩ (fun H locs hd => ?_)
    generalize S1 = S at h hd
    refine lv_iconst (v := 0) hx hb dX2_readNot_27 (by decide) ?_
    exact R_iret C hr hd h dX2_readNot_28
  · rw [if_neg c1] at h
    refine lv_iconst (v := 2) hx hb dX2_readNot_9 (by decide) ?_
    exact R_iret C hr hd h dX2_readNot_10
set_option maxRecDepth 20000 in
theorem ccX2_readNot (l : Launch) (G : Gt)  {S : St} {res : (Int32 × St)}  (h : fX2_readNot  S = some res) : Met l yX2_readNot (wm yX2_readNot cX2_readNot 1 (some .int)) (rmL 4 0 0) (PcW G S [.ref (gR G 34)]) (QI G res.1 res.2) 0 0 (Ab G) := by
  refine Met.ofW (cc := cX2_readNot) (maxL := 1) (ret := (some .int)) (by decide) rfl ?_
  intro p e s m args below meth c s₁ B hml hv
  obtain ⟨rfl, hK, hP⟩ := hv
  have C : Cx p s m _ meth c cX2_readNot 1 RX2 G := ⟨⟨B.exec, B.bytes, hml, findClass_of_methodNamed B.named, fun w hw => atoms_spec (ws := wm yX2_readNot cX2_readNot 1 (some .int)) B.pre w (List.mem_cons_of_mem _ hw)⟩, B.notSynchronized, hK⟩
  have hl := lv_entry ([.ref (gR G 34)]) (n := 1) (Nat.le_of_ble_eq_true rfl)
  rw [lg_entry_eq]
  generalize (lg_sl ([.ref (gR G 34)]) ++ List.replicate (1 - (lg_sl ([.ref (gR G 34)])).length) Slot.unset).toArray = ls at hl ⊢
  exact sfX2_readNot C B.returns  ⟨hP, va_S.rf⟩ hl h
def BX2_valueHere_102 (s1 : Nat) (S : St) : Option (Int32 × St) :=
  bd (fX7_is s1 S) fun x1 S => (if x1 = 0 then ri ((-1)) S else ri ((-23)) S)
set_option maxHeartbeats 4000000 in
set_option maxRecDepth 20000 in
theorem sBX2_valueHere_102 (C : Cx p s m args meth c cX2_valueHere 2 RX2 G) (hr : meth.sig.returnType = some .int) {s1 : Nat} {S : St} {res : (Int32 × St)} {H : Heap} {locs : List Loc} {ls : Array Slot}  (hd : Dy G S s H locs) (hl : lv_has ls 2 [(0, .ref (gR G 34))]) (h : BX2_valueHere_102 s1 S = some res) : W p l e (rmL 7 0 0) s m args below meth c H locs 0 0 (MQ below (QI G res.1 res.2) args s 0 0 (Ab G)) (F0 m 102 ls [.ref (gK G s1), .ref (gR G 33)]) := by
  unfold BX2_valueHere_102 at h
  have hx := C.1.1
  have hb := C.1.2.1
  obtain ⟨x1, S1, hc, h⟩ := bd_some h
  refine R_cVi C hd (ccX7_is l G  hc) kX2_74 rfl (by decide) (rfl : kd 33 = 7) hl.1 ⟨by decide, by decide⟩ rfl rfl (Nat.le_of_ble_eq_true rfl) dX2_valueHere_102 ⟨Nat.zero_le _, Nat.zero_le _⟩ (fun H locs hd => ?_)
  generalize S1 = S at h hd
  refine lv_if_eq (tgt := 111) hx hb dX2_valueHere_105 (by decide) (fun c2 => ?_) (fun c2 => ?_)
  · rw [if_pos c2] at h
    refine lv_iconst (v := -1) hx hb dX2_valueHere_111 (by decide) ?_
    exact R_iret C hr hd h dX2_valueHere_112
  · rw [if_neg c2] at h
    refine lv_bipush (v := -23) hx hb dX2_valueHere_108 (by decide) ?_
    exact R_iret C hr hd h dX2_valueHere_110
def BX2_valueHere_78 (l1 : Int32) (s1 : Nat) (S : St) : Option (Int32 × St) :=
  bd (fX7_is s1 S) fun x1 S => (if x1 = 0 then (if l1 = 0 then (BX2_valueHere_102 14 S) else (BX2_valueHere_102 13 S)) else ri ((-22)) S)
set_option maxHeartbeats 4000000 in
set_option maxRecDepth 20000 in
theorem sBX2_valueHere_78 (C : Cx p s m args meth c cX2_valueHere 2 RX2 G) (hr : meth.sig.returnType = some .int) {l1 : Int32} {s1 : Nat} {S : St} {res : (Int32 × St)} {H : Heap} {locs : List Loc} {ls : Array Slot}  (hd : Dy G S s H locs) (hl : lv_has ls 2 [(0, .ref (gR G 34)), (1, .int l1)]) (h : BX2_valueHere_78 l1 s1 S = some res) : W p l e (rmL 7 0 0) s m args below meth c H locs 0 0 (MQ below (QI G res.1 res.2) args s 0 0 (Ab G)) (F0 m 78 ls [.ref (gK G s1), .ref (gR G 33)]) := by
  unfold BX2_valueHere_78 at h
  have hx := C.1.1
  have hb := C.1.2.1
  obtain ⟨x1, S1, hc, h⟩ := bd_some h
  refine R_cVi C hd (ccX7_is l G  hc) kX2_74 rfl (by decide) (rfl : kd 33 = 7) hl.1 ⟨by decide, by decide⟩ rfl rfl (Nat.le_of_ble_eq_true rfl) dX2_valueHere_78 ⟨Nat.zero_le _, Nat.zero_le _⟩ (fun H locs hd => ?_)
  generalize S1 = S at h hd
  refine lv_if_eq (tgt := 87) hx hb dX2_valueHere_81 (by decide) (fun c2 => ?_) (fun c2 => ?_)
  · rw [if_pos c2] at h
    refine lv_aload_n hx hb dX2_valueHere_87 rfl (lv_at hl 0 rfl) ?_
    refine gX2_15 C hd (rfl : kd 34 = 2) (q := 33) rfl dX2_valueHere_88 (fun y3 => ?_)
    refine lv_iload_n hx hb dX2_valueHere_91 rfl (lv_at hl 1 rfl) ?_
    refine lv_if_eq (tgt := 100) hx hb dX2_valueHere_92 (by decide) (fun c4 => ?_) (fun c4 => ?_)
    · rw [if_pos c4] at h
      refine va_ldcS hx hb C.1.2.2.2.1 (C.2.2.2.2.1 ("SongFields$Phrase", 108, "hearers", 14) (List.mem_of_getElem? (i := 16) rfl)) dX2_valueHere_100 ?_
      exact sBX2_valueHere_102 C hr  hd (lv_sub hl [0] rfl) h
    · rw [if_neg c4] at h
      refine va_ldcS hx hb C.1.2.2.2.1 (C.2.2.2.2.1 ("SongFields$Phrase", 106, "known", 13) (List.mem_of_getElem? (i := 15) rfl)) dX2_valueHere_95 ?_
      refine lv_goto (tgt := 102) hx hb dX2_valueHere_97 (by decide) ?_
      exact sBX2_valueHere_102 C hr  hd (lv_sub hl [0] rfl) h
  · rw [if_neg c2] at h
    refine lv_bipush (v := -22) hx hb dX2_valueHere_84 (by decide) ?_
    exact R_iret C hr hd h dX2_valueHere_86
def BX2_valueHere_54 (l1 : Int32) (s1 : Nat) (S : St) : Option (Int32 × St) :=
  bd (fX7_is s1 S) fun x1 S => (if x1 = 0 then (if l1 = 0 then (BX2_valueHere_78 l1 12 S) else (BX2_valueHere_78 l1 1 S)) else ri ((-21)) S)
set_option maxHeartbeats 4000000 in
set_option maxRecDepth 20000 in
theorem sBX2_valueHere_54 (C : Cx p s m args meth c cX2_valueHere 2 RX2 G) (hr : meth.sig.returnType = some .int) {l1 : Int32} {s1 : Nat} {S : St} {res : (Int32 × St)} {H : Heap} {locs : List Loc} {ls : Array Slot}  (hd : Dy G S s H locs) (hl : lv_has ls 2 [(0, .ref (gR G 34)), (1, .int l1)]) (h : BX2_valueHere_54 l1 s1 S = some res) : W p l e (rmL 7 0 0) s m args below meth c H locs 0 0 (MQ below (QI G res.1 res.2) args s 0 0 (Ab G)) (F0 m 54 ls [.ref (gK G s1), .ref (gR G 33)]) := by
  unfold BX2_valueHere_54 at h
  have hx := C.1.1
  have hb := C.1.2.1
  obtain ⟨x1, S1, hc, h⟩ := bd_some h
  refine R_cVi C hd (ccX7_is l G  hc) kX2_74 rfl (by decide) (rfl : kd 33 = 7) hl.1 ⟨by decide, by decide⟩ rfl rfl (Nat.le_of_ble_eq_true rfl) dX2_valueHere_54 ⟨Nat.zero_le _, Nat.zero_le _⟩ (fun H locs hd => ?_)
  generalize S1 = S at h hd
  refine lv_if_eq (tgt := 63) hx hb dX2_valueHere_57 (by decide) (fun c2 => ?_) (fun c2 => ?_)
  · rw [if_pos c2] at h
    refine lv_aload_n hx hb dX2_valueHere_63 rfl (lv_at hl 0 rfl) ?_
    refine gX2_15 C hd (rfl : kd 34 = 2) (q := 33) rfl dX2_valueHere_64 (fun y3 => ?_)
    refine lv_iload_n hx hb dX2_valueHere_67 rfl (lv_at hl 1 rfl) ?_
    refine lv_if_eq (tgt := 76) hx hb dX2_valueHere_68 (by decide) (fun c4 => ?_) (fun c4 => ?_)
    · rw [if_pos c4] at h
      refine va_ldcS hx hb C.1.2.2.2.1 (C.2.2.2.2.1 ("SongFields$Phrase", 104, "notes", 12) (List.mem_of_getElem? (i := 14) rfl)) dX2_valueHere_76 ?_
      exact sBX2_valueHere_78 C hr  hd (lv_sub hl [0, 1] rfl) h
    · rw [if_neg c4] at h
      refine va_ldcS hx hb C.1.2.2.2.1 (C.2.2.2.2.1 ("SongFields$Phrase", 102, "field", 1) (List.mem_of_getElem? (i := 13) rfl)) dX2_valueHere_71 ?_
      refine lv_goto (tgt := 78) hx hb dX2_valueHere_73 (by decide) ?_
      exact sBX2_valueHere_78 C hr  hd (lv_sub hl [0, 1] rfl) h
  · rw [if_neg c2] at h
    refine lv_bipush (v := -21) hx hb dX2_valueHere_60 (by decide) ?_
    exact R_iret C hr hd h dX2_valueHere_62
def BX2_valueHere_30 (l1 : Int32) (s1 : Nat) (S : St) : Option (Int32 × St) :=
  bd (fX7_is s1 S) fun x1 S => (if x1 = 0 then (if l1 = 0 then (BX2_valueHere_54 l1 11 S) else (BX2_valueHere_54 l1 3 S)) else ri ((-20)) S)
set_option maxHeartbeats 4000000 in
set_option maxRecDepth 20000 in
theorem sBX2_valueHere_30 (C : Cx p s m args meth c cX2_valueHere 2 RX2 G) (hr : meth.sig.returnType = some .int) {l1 : Int32} {s1 : Nat} {S : St} {res : (Int32 × St)} {H : Heap} {locs : List Loc} {ls : Array Slot}  (hd : Dy G S s H locs) (hl : lv_has ls 2 [(0, .ref (gR G 34)), (1, .int l1)]) (h : BX2_valueHere_30 l1 s1 S = some res) : W p l e (rmL 7 0 0) s m args below meth c H locs 0 0 (MQ below (QI G res.1 res.2) args s 0 0 (Ab G)) (F0 m 30 ls [.ref (gK G s1), .ref (gR G 33)]) := by
  unfold BX2_valueHere_30 at h
  have hx := C.1.1
  have hb := C.1.2.1
  obtain ⟨x1, S1, hc, h⟩ := bd_some h
  refine R_cVi C hd (ccX7_is l G  hc) kX2_74 rfl (by decide) (rfl : kd 33 = 7) hl.1 ⟨by decide, by decide⟩ rfl rfl (Nat.le_of_ble_eq_true rfl) dX2_valueHere_30 ⟨Nat.zero_le _, Nat.zero_le _⟩ (fun H locs hd => ?_)
  generalize S1 = S at h hd
  refine lv_if_eq (tgt := 39) hx hb dX2_valueHere_33 (by decide) (fun c2 => ?_) (fun c2 => ?_)
  · rw [if_pos c2] at h
    refine lv_aload_n hx hb dX2_valueHere_39 rfl (lv_at hl 0 rfl) ?_
    refine gX2_15 C hd (rfl : kd 34 = 2) (q := 33) rfl dX2_valueHere_40 (fun y3 => ?_)
    refine lv_iload_n hx hb dX2_valueHere_43 rfl (lv_at hl 1 rfl) ?_
    refine lv_if_eq (tgt := 52) hx hb dX2_valueHere_44 (by decide) (fun c4 => ?_) (fun c4 => ?_)
    · rw [if_pos c4] at h
      refine va_ldcS hx hb C.1.2.2.2.1 (C.2.2.2.2.1 ("SongFields$Phrase", 100, "acres", 11) (List.mem_of_getElem? (i := 12) rfl)) dX2_valueHere_52 ?_
      exact sBX2_valueHere_54 C hr  hd (lv_sub hl [0, 1] rfl) h
    · rw [if_neg c4] at h
      refine va_ldcS hx hb C.1.2.2.2.1 (C.2.2.2.2.1 ("SongFields$Phrase", 98, "singer", 3) (List.mem_of_getElem? (i := 11) rfl)) dX2_valueHere_47 ?_
      refine lv_goto (tgt := 54) hx hb dX2_valueHere_49 (by decide) ?_
      exact sBX2_valueHere_54 C hr  hd (lv_sub hl [0, 1] rfl) h
  · rw [if_neg c2] at h
    refine lv_bipush (v := -20) hx hb dX2_valueHere_36 (by decide) ?_
    exact R_iret C hr hd h dX2_valueHere_38
def fX2_valueHere (a1 : Int32) (S : St) : Option (Int32 × St) :=
  bd (fX7_is 8 S) fun x2 S => (if x2 = 0 then (if a1 = 0 then (BX2_valueHere_30 a1 10 S) else (BX2_valueHere_30 a1 9 S)) else ri ((-24)) S)
set_option maxHeartbeats 4000000 in
set_option maxRecDepth 20000 in
theorem sfX2_valueHere (C : Cx p s m args meth c cX2_valueHere 2 RX2 G) (hr : meth.sig.returnType = some .int) {a1 : Int32} {S : St} {res : (Int32 × St)} {H : Heap} {locs : List Loc} {ls : Array Slot}  (hd : Dy G S s H locs) (hl : lv_has ls 2 [(0, .ref (gR G 34)), (1, .int a1)]) (h : fX2_valueHere a1 S = some res) : W p l e (rmL 7 0 0) s m args below meth c H locs 0 0 (MQ below (QI G res.1 res.2) args s 0 0 (Ab G)) (F0 m 0 ls []) := by
  unfold fX2_valueHere at h
  have hx := C.1.1
  have hb := C.1.2.1
  refine lv_aload_n hx hb dX2_valueHere_0 rfl (lv_at hl 0 rfl) ?_
  refine gX2_15 C hd (rfl : kd 34 = 2) (q := 33) rfl dX2_valueHere_1 (fun y1 => ?_)
  refine va_ldcS hx hb C.1.2.2.2.1 (C.2.2.2.2.1 ("SongFields$Phrase", 92, "purse", 8) (List.mem_of_getElem? (i := 8) rfl)) dX2_valueHere_4 ?_
  obtain ⟨x2, S1, hc, h⟩ := bd_some h
  refine R_cVi C hd (ccX7_is l G  hc) kX2_74 rfl (by decide) y1 hl.1 ⟨by decide, by decide⟩ rfl rfl (Nat.le_of_ble_eq_true rfl) dX2_valueHere_6 ⟨Nat.zero_le _, Nat.zero_le _⟩ (fun H locs hd => ?_)
  generalize S1 = S at h hd
  refine lv_if_eq (tgt := 15) hx hb dX2_valueHere_9 (by decide) (fun c3 => ?_) (fun c3 => ?_)
  · rw [if_pos c3] at h
    refine lv_aload_n hx hb dX2_valueHere_15 rfl (lv_at hl 0 rfl) ?_
    refine gX2_15 C hd (rfl : kd 34 = 2) (q := 33) rfl dX2_valueHere_16 (fun y4 => ?_)
    refine lv_iload_n hx hb dX2_valueHere_19 rfl (lv_at hl 1 rfl) ?_
    refine lv_if_eq (tgt := 28) hx hb dX2_valueHere_20 (by decide) (fun c5 => ?_) (fun c5 => ?_)
    · rw [if_pos c5] at h
      refine va_ldcS hx hb C.1.2.2.2.1 (C.2.2.2.2.1 ("SongFields$Phrase", 96, "far", 10) (List.mem_of_getElem? (i := 10) rfl)) dX2_valueHere_28 ?_
      exact sBX2_valueHere_30 C hr  hd (lv_sub hl [0, 1] rfl) h
    · rw [if_neg c5] at h
      refine va_ldcS hx hb C.1.2.2.2.1 (C.2.2.2.2.1 ("SongFields$Phrase", 94, "hour", 9) (List.mem_of_getElem? (i := 9) rfl)) dX2_valueHere_23 ?_
      refine lv_goto (tgt := 30) hx hb dX2_valueHere_25 (by decide) ?_
      exact sBX2_valueHere_30 C hr  hd (lv_sub hl [0, 1] rfl) h
  · rw [if_neg c3] at h
    refine lv_bipush (v := -24) hx hb dX2_valueHere_12 (by decide) ?_
    exact R_iret C hr hd h dX2_valueHere_14
set_option maxRecDepth 20000 in
theorem ccX2_valueHere (l : Launch) (G : Gt) {a1 : Int32} {S : St} {res : (Int32 × St)}  (h : fX2_valueHere a1 S = some res) : Met l yX2_valueHere (wm yX2_valueHere cX2_valueHere 2 (some .int)) (rmL 7 0 0) (PcW G S [.ref (gR G 34), .int a1]) (QI G res.1 res.2) 0 0 (Ab G) := by
  refine Met.ofW (cc := cX2_valueHere) (maxL := 2) (ret := (some .int)) (by decide) rfl ?_
  intro p e s m args below meth c s₁ B hml hv
  obtain ⟨rfl, hK, hP⟩ := hv
  have C : Cx p s m _ meth c cX2_valueHere 2 RX2 G := ⟨⟨B.exec, B.bytes, hml, findClass_of_methodNamed B.named, fun w hw => atoms_spec (ws := wm yX2_valueHere cX2_valueHere 2 (some .int)) B.pre w (List.mem_cons_of_mem _ hw)⟩, B.notSynchronized, hK⟩
  have hl := lv_entry ([.ref (gR G 34), .int a1]) (n := 2) (Nat.le_of_ble_eq_true rfl)
  rw [lg_entry_eq]
  generalize (lg_sl ([.ref (gR G 34), .int a1]) ++ List.replicate (2 - (lg_sl ([.ref (gR G 34), .int a1])).length) Slot.unset).toArray = ls at hl ⊢
  exact sfX2_valueHere C B.returns  ⟨hP, va_S.rf⟩ hl h
def BX2_readPart_119 (l1 : Nat) (s0 : Int32) (S : St) : Option (Int32 × St) :=
  (if s0 = (-1) then ri 3 S else bv (fX3_add l1 s0 S) fun S => pz S 34 5 0 fun S => ri 0 S)
set_option maxHeartbeats 4000000 in
set_option maxRecDepth 20000 in
theorem sBX2_readPart_119 (C : Cx p s m args meth c cX2_readPart 5 RX2 G) (hr : meth.sig.returnType = some .int) {l1 : Nat} {s0 : Int32} {S : St} {res : (Int32 × St)} {H : Heap} {locs : List Loc} {ls : Array Slot} (kl1 : kd l1 = 3) (hd : Dy G S s H locs) (hl : lv_has ls 5 [(0, .ref (gR G 34)), (1, .ref (gR G l1))]) (h : BX2_readPart_119 l1 s0 S = some res) : W p l e (rmL 8 0 0) s m args below meth c H locs 0 0 (MQ below (QI G res.1 res.2) args s 0 0 (Ab G)) (F0 m 119 ls [.int s0]) := by
  unfold BX2_readPart_119 at h
  have hx := C.1.1
  have hb := C.1.2.1
  refine lv_istore (lv' := [(4, .int s0), (0, .ref (gR G 34)), (1, .ref (gR G l1))]) hx hb dX2_readPart_119 hl (by decide) rfl (fun ls hl => ?_)
  refine lv_iload hx hb dX2_readPart_121 (lv_at hl 0 rfl) ?_
  refine lv_iconst (v := -1) hx hb dX2_readPart_123 (by decide) ?_
  refine lv_icmp_ne (tgt := 129) hx hb dX2_readPart_124 (by decide) (fun c1 => ?_) (fun c1 => ?_)
  · rw [if_neg c1] at h
    refine lv_aload_n hx hb dX2_readPart_129 rfl (lv_at hl 2 rfl) ?_
    refine lv_iload hx hb dX2_readPart_130 (lv_at hl 0 rfl) ?_
    obtain ⟨S1, hc, h⟩ := bv_some h
    refine R_cVv C hd (ccX3_add l G kl1 hc) kX2_89 rfl (by decide) kl1 hl.1 ⟨by decide, by decide⟩ rfl rfl (Nat.le_of_ble_eq_true rfl) dX2_readPart_132 ⟨Nat.zero_le _, Nat.zero_le _⟩ (fun H locs hd => ?_)
    generalize S1 = S at h hd
    refine lv_aload_n hx hb dX2_readPart_135 rfl (lv_at hl 1 rfl) ?_
    refine lv_iconst (v := 0) hx hb dX2_readPart_136 (by decide) ?_
    refine pX2_36 C hd (rfl : kd 34 = 2) h dX2_readPart_137 (fun S H locs hd h => ?_)
    refine lv_iconst (v := 0) hx hb dX2_readPart_140 (by decide) ?_
    exact R_iret C hr hd h dX2_readPart_141
  · rw [if_pos c1] at h
    refine lv_iconst (v := 3) hx hb dX2_readPart_127 (by decide) ?_
    exact R_iret C hr hd h dX2_readPart_128
def BX2_readPart_99 (l1 : Nat) (l2 : Int32) (l3 : Int32) (S : St) : Option (Int32 × St) :=
  (if l3 = 2 then (BX2_readPart_119 l1 (S 33 5) S) else bd (fX2_valueHere l2 S) fun x2 S => (BX2_readPart_119 l1 x2 S))
set_option maxHeartbeats 4000000 in
set_option maxRecDepth 20000 in
theorem sBX2_readPart_99 (C : Cx p s m args meth c cX2_readPart 5 RX2 G) (hr : meth.sig.returnType = some .int) {l1 : Nat} {l2 : Int32} {l3 : Int32} {S : St} {res : (Int32 × St)} {H : Heap} {locs : List Loc} {ls : Array Slot} (kl1 : kd l1 = 3) (hd : Dy G S s H locs) (hl : lv_has ls 5 [(0, .ref (gR G 34)), (1, .ref (gR G l1)), (2, .int l2), (3, .int l3)]) (h : BX2_readPart_99 l1 l2 l3 S = some res) : W p l e (rmL 8 0 0) s m args below meth c H locs 0 0 (MQ below (QI G res.1 res.2) args s 0 0 (Ab G)) (F0 m 99 ls []) := by
  unfold BX2_readPart_99 at h
  have hx := C.1.1
  have hb := C.1.2.1
  refine lv_iload_n hx hb dX2_readPart_99 rfl (lv_at hl 3 rfl) ?_
  refine lv_iconst (v := 2) hx hb dX2_readPart_100 (by decide) ?_
  refine lv_icmp_ne (tgt := 114) hx hb dX2_readPart_101 (by decide) (fun c1 => ?_) (fun c1 => ?_)
  · rw [if_neg c1] at h
    refine lv_aload_n hx hb dX2_readPart_114 rfl (lv_at hl 0 rfl) ?_
    refine lv_iload_n hx hb dX2_readPart_115 rfl (lv_at hl 2 rfl) ?_
    obtain ⟨x2, S1, hc, h⟩ := bd_some h
    refine R_cVi C hd (ccX2_valueHere l G  hc) kX2_85 rfl (by decide) (rfl : kd 34 = 2) hl.1 ⟨by decide, by decide⟩ rfl rfl (Nat.le_of_ble_eq_true rfl) dX2_readPart_116 ⟨Nat.zero_le _, Nat.zero_le _⟩ (fun H locs hd => ?_)
    generalize S1 = S at h hd
    exact sBX2_readPart_119 C hr kl1 hd (lv_sub hl [0, 1] rfl) h
  · rw [if_pos c1] at h
    refine lv_aload_n hx hb dX2_readPart_104 rfl (lv_at hl 0 rfl) ?_
    refine gX2_15 C hd (rfl : kd 34 = 2) (q := 33) rfl dX2_readPart_105 (fun y3 => ?_)
    refine gX2_82 C hd y3 dX2_readPart_108 ?_
    refine lv_goto (tgt := 119) hx hb dX2_readPart_111 (by decide) ?_
    exact sBX2_readPart_119 C hr kl1 hd (lv_sub hl [0, 1] rfl) h
def BX2_readPart_26 (l1 : Nat) (l2 : Int32) (l3 : Int32) (S : St) : Option (Int32 × St) :=
  (if 6 ≤ (S 34 3) then ri 2 S else bd (fX7_isTooLong  S) fun x3 S => (if x3 = 0 then (if l3 = 40 then bv (fX2_hold 0 S) fun S => pf S 34 3 ((S 34 3) + 1) fun S => bv (fX2_expectPart 1 S) fun S => ri 0 S else (if (S 34 6) = 0 then (BX2_readPart_99 l1 l2 l3 S) else bd (fX7_is 7 S) fun x8 S => (if x8 = 0 then (BX2_readPart_99 l1 l2 l3 S) else bd (fX2_readNot  S) fun x10 S => ri x10 S))) else ri 2 S))
set_option maxHeartbeats 4000000 in
set_option maxRecDepth 20000 in
theorem sBX2_readPart_26 (C : Cx p s m args meth c cX2_readPart 5 RX2 G) (hr : meth.sig.returnType = some .int) {l1 : Nat} {l2 : Int32} {l3 : Int32} {S : St} {res : (Int32 × St)} {H : Heap} {locs : List Loc} {ls : Array Slot} (kl1 : kd l1 = 3) (hd : Dy G S s H locs) (hl : lv_has ls 5 [(0, .ref (gR G 34)), (1, .ref (gR G l1)), (2, .int l2), (3, .int l3)]) (h : BX2_readPart_26 l1 l2 l3 S = some res) : W p l e (rmL 8 0 0) s m args below meth c H locs 0 0 (MQ below (QI G res.1 res.2) args s 0 0 (Ab G)) (F0 m 26 ls []) := by
  unfold BX2_readPart_26 at h
  have hx := C.1.1
  have hb := C.1.2.1
  refine lv_aload_n hx hb dX2_readPart_26 rfl (lv_at hl 0 rfl) ?_
  refine gX2_23 C hd (rfl : kd 34 = 2) dX2_readPart_27 ?_
  refine lv_bipush (v := 6) hx hb dX2_readPart_30 (by decide) ?_
  refine lv_icmp_ge (tgt := 45) hx hb dX2_readPart_32 (by decide) (fun c1 => ?_) (fun c1 => ?_)
  · rw [if_pos c1] at h
    refine lv_iconst (v := 2) hx hb dX2_readPart_45 (by decide) ?_
    exact R_iret C hr hd h dX2_readPart_46
  · rw [if_neg c1] at h
    refine lv_aload_n hx hb dX2_readPart_35 rfl (lv_at hl 0 rfl) ?_
    refine gX2_15 C hd (rfl : kd 34 = 2) (q := 33) rfl dX2_readPart_36 (fun y2 => ?_)
    obtain ⟨x3, S1, hc, h⟩ := bd_some h
    refine R_cVi C hd (ccX7_isTooLong l G  hc) kX2_65 rfl (by decide) y2 hl.1 ⟨by decide, by decide⟩ rfl rfl (Nat.le_of_ble_eq_true rfl) dX2_readPart_39 ⟨Nat.zero_le _, Nat.zero_le _⟩ (fun H locs hd => ?_)
    generalize S1 = S at h hd
    refine lv_if_eq (tgt := 47) hx hb dX2_readPart_42 (by decide) (fun c4 => ?_) (fun c4 => ?_)
    · rw [if_pos c4] at h
      refine lv_iload_n hx hb dX2_readPart_47 rfl (lv_at hl 3 rfl) ?_
      refine lv_bipush (v := 40) hx hb dX2_readPart_48 (by decide) ?_
      refine lv_icmp_ne (tgt := 75) hx hb dX2_readPart_50 (by decide) (fun c5 => ?_) (fun c5 => ?_)
      · rw [if_neg c5] at h
        refine lv_aload_n hx hb dX2_readPart_75 rfl (lv_at hl 0 rfl) ?_
        refine gX2_56 C hd (rfl : kd 34 = 2) dX2_readPart_76 ?_
        refine lv_if_eq (tgt := 99) hx hb dX2_readPart_79 (by decide) (fun c6 => ?_) (fun c6 => ?_)
        · rw [if_pos c6] at h
          exact sBX2_readPart_99 C hr kl1 hd (lv_sub hl [0, 1, 2, 3] rfl) h
        · rw [if_neg c6] at h
          refine lv_aload_n hx hb dX2_readPart_82 rfl (lv_at hl 0 rfl) ?_
          refine gX2_15 C hd (rfl : kd 34 = 2) (q := 33) rfl dX2_readPart_83 (fun y7 => ?_)
          refine va_ldcS hx hb C.1.2.2.2.1 (C.2.2.2.2.1 ("SongFields$Phrase", 72, "not", 7) (List.mem_of_getElem? (i := 7) rfl)) dX2_readPart_86 ?_
          obtain ⟨x8, S1, hc, h⟩ := bd_some h
          refine R_cVi C hd (ccX7_is l G  hc) kX2_74 rfl (by decide) y7 hl.1 ⟨by decide, by decide⟩ rfl rfl (Nat.le_of_ble_eq_true rfl) dX2_readPart_88 ⟨Nat.zero_le _, Nat.zero_le _⟩ (fun H locs hd => ?_)
          generalize S1 = S at h hd
          refine lv_if_eq (tgt := 99) hx hb dX2_readPart_91 (by decide) (fun c9 => ?_) (fun c9 => ?_)
          · rw [if_pos c9] at h
            exact sBX2_readPart_99 C hr kl1 hd (lv_sub hl [0, 1, 2, 3] rfl) h
          · rw [if_neg c9] at h
            refine lv_aload_n hx hb dX2_readPart_94 rfl (lv_at hl 0 rfl) ?_
            obtain ⟨x10, S1, hc, h⟩ := bd_some h
            refine R_cVi C hd (ccX2_readNot l G  hc) kX2_78 rfl (by decide) (rfl : kd 34 = 2) hl.1 ⟨by decide, by decide⟩ rfl rfl (Nat.le_of_ble_eq_true rfl) dX2_readPart_95 ⟨Nat.zero_le _, Nat.zero_le _⟩ (fun H locs hd => ?_)
            generalize S1 = S at h hd
            exact R_iret C hr hd h dX2_readPart_98
      · rw [if_pos c5] at h
        refine lv_aload_n hx hb dX2_readPart_53 rfl (lv_at hl 0 rfl) ?_
        refine lv_iconst (v := 0) hx hb dX2_readPart_54 (by decide) ?_
        obtain ⟨S1, hc, h⟩ := bv_some h
        refine R_cVv C hd (ccX2_hold l G  hc) kX2_69 rfl (by decide) (rfl : kd 34 = 2) hl.1 ⟨by decide, by decide⟩ rfl rfl (Nat.le_of_ble_eq_true rfl) dX2_readPart_55 ⟨Nat.zero_le _, Nat.zero_le _⟩ (fun H locs hd => ?_)
        generalize S1 = S at h hd
        refine lv_aload_n hx hb dX2_readPart_58 rfl (lv_at hl 0 rfl) ?_
        refine lv_dup hx hb dX2_readPart_59 rfl ?_
        refine gX2_23 C hd (rfl : kd 34 = 2) dX2_readPart_60 ?_
        refine lv_iconst (v := 1) hx hb dX2_readPart_63 (by decide) ?_
        refine lv_iadd hx hb dX2_readPart_64 ?_
        refine pX2_23 C hd (rfl : kd 34 = 2) h dX2_readPart_65 (fun S H locs hd h => ?_)
        refine lv_aload_n hx hb dX2_readPart_68 rfl (lv_at hl 0 rfl) ?_
        refine lv_iconst (v := 1) hx hb dX2_readPart_69 (by decide) ?_
        obtain ⟨S1, hc, h⟩ := bv_some h
        refine R_cVv C hd (ccX2_expectPart l G  hc) kX2_32 rfl (by decide) (rfl : kd 34 = 2) hl.1 ⟨by decide, by decide⟩ rfl rfl (Nat.le_of_ble_eq_true rfl) dX2_readPart_70 ⟨Nat.zero_le _, Nat.zero_le _⟩ (fun H locs hd => ?_)
        generalize S1 = S at h hd
        refine lv_iconst (v := 0) hx hb dX2_readPart_73 (by decide) ?_
        exact R_iret C hr hd h dX2_readPart_74
    · rw [if_neg c4] at h
      refine lv_iconst (v := 2) hx hb dX2_readPart_45 (by decide) ?_
      exact R_iret C hr hd h dX2_readPart_46
def fX2_readPart (a1 : Nat) (a2 : Int32) (S : St) : Option (Int32 × St) :=
  vl (S 33 3) fun x2 => (if x2 = 2 then (BX2_readPart_26 a1 a2 x2 S) else (if x2 = 1 then (BX2_readPart_26 a1 a2 x2 S) else (if x2 = 40 then (BX2_readPart_26 a1 a2 x2 S) else ri 1 S)))
set_option maxHeartbeats 4000000 in
set_option maxRecDepth 20000 in
theorem sfX2_readPart (C : Cx p s m args meth c cX2_readPart 5 RX2 G) (hr : meth.sig.returnType = some .int) {a1 : Nat} {a2 : Int32} {S : St} {res : (Int32 × St)} {H : Heap} {locs : List Loc} {ls : Array Slot} (k1 : kd a1 = 3) (hd : Dy G S s H locs) (hl : lv_has ls 5 [(0, .ref (gR G 34)), (1, .ref (gR G a1)), (2, .int a2)]) (h : fX2_readPart a1 a2 S = some res) : W p l e (rmL 8 0 0) s m args below meth c H locs 0 0 (MQ below (QI G res.1 res.2) args s 0 0 (Ab G)) (F0 m 0 ls []) := by
  unfold fX2_readPart at h
  have hx := C.1.1
  have hb := C.1.2.1
  refine lv_aload_n hx hb dX2_readPart_0 rfl (lv_at hl 0 rfl) ?_
  refine gX2_15 C hd (rfl : kd 34 = 2) (q := 33) rfl dX2_readPart_1 (fun y1 => ?_)
  refine gX2_62 C hd y1 dX2_readPart_4 ?_
  refine R_vl h (fun x2 h => ?_)
  refine lv_istore_n (lv' := [(3, .int x2), (0, .ref (gR G 34)), (1, .ref (gR G a1)), (2, .int a2)]) hx hb dX2_readPart_7 rfl hl (by decide) rfl (fun ls hl => ?_)
  refine lv_iload_n hx hb dX2_readPart_8 rfl (lv_at hl 0 rfl) ?_
  refine lv_iconst (v := 2) hx hb dX2_readPart_9 (by decide) ?_
  refine lv_icmp_eq (tgt := 26) hx hb dX2_readPart_10 (by decide) (fun c3 => ?_) (fun c3 => ?_)
  · rw [if_pos c3] at h
    exact sBX2_readPart_26 C hr k1 hd (lv_sub hl [1, 2, 3, 0] rfl) h
  · rw [if_neg c3] at h
    refine lv_iload_n hx hb dX2_readPart_13 rfl (lv_at hl 0 rfl) ?_
    refine lv_iconst (v := 1) hx hb dX2_readPart_14 (by decide) ?_
    refine lv_icmp_eq (tgt := 26) hx hb dX2_readPart_15 (by decide) (fun c4 => ?_) (fun c4 => ?_)
    · rw [if_pos c4] at h
      exact sBX2_readPart_26 C hr k1 hd (lv_sub hl [1, 2, 3, 0] rfl) h
    · rw [if_neg c4] at h
      refine lv_iload_n hx hb dX2_readPart_18 rfl (lv_at hl 0 rfl) ?_
      refine lv_bipush (v := 40) hx hb dX2_readPart_19 (by decide) ?_
      refine lv_icmp_eq (tgt := 26) hx hb dX2_readPart_21 (by decide) (fun c5 => ?_) (fun c5 => ?_)
      · rw [if_pos c5] at h
        exact sBX2_readPart_26 C hr k1 hd (lv_sub hl [1, 2, 3, 0] rfl) h
      · rw [if_neg c5] at h
        refine lv_iconst (v := 1) hx hb dX2_readPart_24 (by decide) ?_
        exact R_iret C hr hd h dX2_readPart_25
set_option maxRecDepth 20000 in
theorem ccX2_readPart (l : Launch) (G : Gt) {a1 : Nat} {a2 : Int32} {S : St} {res : (Int32 × St)} (k1 : kd a1 = 3) (h : fX2_readPart a1 a2 S = some res) : Met l yX2_readPart (wm yX2_readPart cX2_readPart 5 (some .int)) (rmL 8 0 0) (PcW G S [.ref (gR G 34), .ref (gR G a1), .int a2]) (QI G res.1 res.2) 0 0 (Ab G) := by
  refine Met.ofW (cc := cX2_readPart) (maxL := 5) (ret := (some .int)) (by decide) rfl ?_
  intro p e s m args below meth c s₁ B hml hv
  obtain ⟨rfl, hK, hP⟩ := hv
  have C : Cx p s m _ meth c cX2_readPart 5 RX2 G := ⟨⟨B.exec, B.bytes, hml, findClass_of_methodNamed B.named, fun w hw => atoms_spec (ws := wm yX2_readPart cX2_readPart 5 (some .int)) B.pre w (List.mem_cons_of_mem _ hw)⟩, B.notSynchronized, hK⟩
  have hl := lv_entry ([.ref (gR G 34), .ref (gR G a1), .int a2]) (n := 5) (Nat.le_of_ble_eq_true rfl)
  rw [lg_entry_eq]
  generalize (lg_sl ([.ref (gR G 34), .ref (gR G a1), .int a2]) ++ List.replicate (5 - (lg_sl ([.ref (gR G 34), .ref (gR G a1), .int a2])).length) Slot.unset).toArray = ls at hl ⊢
  exact sfX2_readPart C B.returns k1 ⟨hP, va_S.rf⟩ hl h
def BX2_read_92 (l4 : Int32) (s0 : Nat) (s1 : Int32) (S : St) : Option (Int32 × St) :=
  pz S s0 0 s1 fun S => (if l4 = (-1) then ri 0 S else ri l4 S)
set_option maxHeartbeats 4000000 in
set_option maxRecDepth 20000 in
theorem sBX2_read_92 (C : Cx p s m args meth c cX2_read 6 RX2 G) (hr : meth.sig.returnType = some .int) {l4 : Int32} {s0 : Nat} {s1 : Int32} {S : St} {res : (Int32 × St)} {H : Heap} {locs : List Loc} {ls : Array Slot} (ks0 : kd s0 = 3) (hd : Dy G S s H locs) (hl : lv_has ls 6 [(0, .ref (gR G 34)), (4, .int l4)]) (h : BX2_read_92 l4 s0 s1 S = some res) : W p l e (rmL 9 0 0) s m args below meth c H locs 0 0 (MQ below (QI G res.1 res.2) args s 0 0 (Ab G)) (F0 m 92 ls [.int s1, .ref (gR G s0)]) := by
  unfold BX2_read_92 at h
  have hx := C.1.1
  have hb := C.1.2.1
  refine pX2_53 C hd ks0 h dX2_read_92 (fun S H locs hd h => ?_)
  refine lv_iload hx hb dX2_read_95 (lv_at hl 1 rfl) ?_
  refine lv_iconst (v := -1) hx hb dX2_read_97 (by decide) ?_
  refine lv_icmp_ne (tgt := 105) hx hb dX2_read_98 (by decide) (fun c1 => ?_) (fun c1 => ?_)
  · rw [if_neg c1] at h
    refine lv_iload hx hb dX2_read_105 (lv_at hl 1 rfl) ?_
    exact R_iret C hr hd h dX2_read_107
  · rw [if_pos c1] at h
    refine lv_iconst (v := 0) hx hb dX2_read_101 (by decide) ?_
    refine lv_goto (tgt := 107) hx hb dX2_read_102 (by decide) ?_
    exact R_iret C hr hd h dX2_read_107
def BX2_read_80 (l1 : Nat) (l4 : Int32) (S : St) : Option (Int32 × St) :=
  (if l4 = (-1) then (BX2_read_92 l4 l1 1 S) else (BX2_read_92 l4 l1 0 S))
set_option maxHeartbeats 4000000 in
set_option maxRecDepth 20000 in
theorem sBX2_read_80 (C : Cx p s m args meth c cX2_read 6 RX2 G) (hr : meth.sig.returnType = some .int) {l1 : Nat} {l4 : Int32} {S : St} {res : (Int32 × St)} {H : Heap} {locs : List Loc} {ls : Array Slot} (kl1 : kd l1 = 3) (hd : Dy G S s H locs) (hl : lv_has ls 6 [(0, .ref (gR G 34)), (1, .ref (gR G l1)), (4, .int l4)]) (h : BX2_read_80 l1 l4 S = some res) : W p l e (rmL 9 0 0) s m args below meth c H locs 0 0 (MQ below (QI G res.1 res.2) args s 0 0 (Ab G)) (F0 m 80 ls []) := by
  unfold BX2_read_80 at h
  have hx := C.1.1
  have hb := C.1.2.1
  refine lv_aload_n hx hb dX2_read_80 rfl (lv_at hl 1 rfl) ?_
  refine lv_iload hx hb dX2_read_81 (lv_at hl 2 rfl) ?_
  refine lv_iconst (v := -1) hx hb dX2_read_83 (by decide) ?_
  refine lv_icmp_ne (tgt := 91) hx hb dX2_read_84 (by decide) (fun c1 => ?_) (fun c1 => ?_)
  · rw [if_neg c1] at h
    refine lv_iconst (v := 0) hx hb dX2_read_91 (by decide) ?_
    exact sBX2_read_92 C hr kl1 hd (lv_sub hl [0, 2] rfl) h
  · rw [if_pos c1] at h
    refine lv_iconst (v := 1) hx hb dX2_read_87 (by decide) ?_
    refine lv_goto (tgt := 92) hx hb dX2_read_88 (by decide) ?_
    exact sBX2_read_92 C hr kl1 hd (lv_sub hl [0, 2] rfl) h
def BX2_read_74 (r26 : Nat → Int32 → Int32 → Int32 → St → Option (Int32 × St)) (l1 : Nat) (l2 : Int32) (l4 : Int32) (l5 : Int32) (S : St) : Option (Int32 × St) :=
  vl (l5 + 1) fun x1 => (r26 l1 l2 l4 x1 S)
set_option maxHeartbeats 4000000 in
set_option maxRecDepth 20000 in
theorem sBX2_read_74 (C : Cx p s m args meth c cX2_read 6 RX2 G) (hr : meth.sig.returnType = some .int) {r26 : Nat → Int32 → Int32 → Int32 → St → Option (Int32 × St)} (hr26 : ∀ (l1 : Nat) (l2 : Int32) (l4 : Int32) (l5 : Int32) (S : St) (res : (Int32 × St)) (H : Heap) (locs : List Loc) (ls : Array Slot), kd l1 = 3 → Dy G S s H locs → lv_has ls 6 [(0, .ref (gR G 34)), (1, .ref (gR G l1)), (2, .int l2), (4, .int l4), (5, .int l5)] → r26 l1 l2 l4 l5 S = some res → W p l e (rmL 9 0 0) s m args below meth c H locs 0 0 (MQ below (QI G res.1 res.2) args s 0 0 (Ab G)) (F0 m 26 ls [])) {l1 : Nat} {l2 : Int32} {l4 : Int32} {l5 : Int32} {S : St} {res : (Int32 × St)} {H : Heap} {locs : List Loc} {ls : Array Slot} (kl1 : kd l1 = 3) (hd : Dy G S s H locs) (hl : lv_has ls 6 [(0, .ref (gR G 34)), (1, .ref (gR G l1)), (2, .int l2), (4, .int l4), (5, .int l5)]) (h : BX2_read_74 r26 l1 l2 l4 l5 S = some res) : W p l e (rmL 9 0 0) s m args below meth c H locs 0 0 (MQ below (QI G res.1 res.2) args s 0 0 (Ab G)) (F0 m 74 ls []) := by
  unfold BX2_read_74 at h
  have hx := C.1.1
  have hb := C.1.2.1
  refine R_vi h (fun x1 ex1 h => ?_)
  refine lv_iinc (v := x1) (lv' := [(5, .int x1), (0, .ref (gR G 34)), (1, .ref (gR G l1)), (2, .int l2), (4, .int l4)]) hx hb dX2_read_74 hl (k := 4) rfl (by rw [ex1]; rfl) (by decide) rfl (fun ls hl => ?_)
  refine lv_goto (tgt := 26) hx hb dX2_read_77 (by decide) ?_
  exact hr26 l1 l2 l4 x1 _ _ _ _ _ kl1 hd (lv_sub hl [1, 2, 3, 4, 0] rfl) h
def BX2_read_60 (r26 : Nat → Int32 → Int32 → Int32 → St → Option (Int32 × St)) (l1 : Nat) (l2 : Int32) (l5 : Int32) (s0 : Int32) (S : St) : Option (Int32 × St) :=
  (if s0 = 0 then bv (fX7_advance  S) fun S => (BX2_read_74 r26 l1 l2 s0 l5 S) else (BX2_read_74 r26 l1 l2 s0 l5 S))
set_option maxHeartbeats 4000000 in
set_option maxRecDepth 20000 in
theorem sBX2_read_60 (C : Cx p s m args meth c cX2_read 6 RX2 G) (hr : meth.sig.returnType = some .int) {r26 : Nat → Int32 → Int32 → Int32 → St → Option (Int32 × St)} (hr26 : ∀ (l1 : Nat) (l2 : Int32) (l4 : Int32) (l5 : Int32) (S : St) (res : (Int32 × St)) (H : Heap) (locs : List Loc) (ls : Array Slot), kd l1 = 3 → Dy G S s H locs → lv_has ls 6 [(0, .ref (gR G 34)), (1, .ref (gR G l1)), (2, .int l2), (4, .int l4), (5, .int l5)] → r26 l1 l2 l4 l5 S = some res → W p l e (rmL 9 0 0) s m args below meth c H locs 0 0 (MQ below (QI G res.1 res.2) args s 0 0 (Ab G)) (F0 m 26 ls [])) {l1 : Nat} {l2 : Int32} {l5 : Int32} {s0 : Int32} {S : St} {res : (Int32 × St)} {H : Heap} {locs : List Loc} {ls : Array Slot} (kl1 : kd l1 = 3) (hd : Dy G S s H locs) (hl : lv_has ls 6 [(0, .ref (gR G 34)), (1, .ref (gR G l1)), (2, .int l2), (5, .int l5)]) (h : BX2_read_60 r26 l1 l2 l5 s0 S = some res) : W p l e (rmL 9 0 0) s m args below meth c H locs 0 0 (MQ below (QI G res.1 res.2) args s 0 0 (Ab G)) (F0 m 60 ls [.int s0]) := by
  unfold BX2_read_60 at h
  have hx := C.1.1
  have hb := C.1.2.1
  refine lv_istore (lv' := [(4, .int s0), (0, .ref (gR G 34)), (1, .ref (gR G l1)), (2, .int l2), (5, .int l5)]) hx hb dX2_read_60 hl (by decide) rfl (fun ls hl => ?_)
  refine lv_iload hx hb dX2_read_62 (lv_at hl 0 rfl) ?_
  refine lv_if_ne (tgt := 74) hx hb dX2_read_64 (by decide) (fun c1 => ?_) (fun c1 => ?_)
  · rw [if_neg c1] at h
    exact sBX2_read_74 C hr hr26 kl1 hd (lv_sub hl [1, 2, 3, 0, 4] rfl) h
  · rw [if_pos c1] at h
    refine lv_aload_n hx hb dX2_read_67 rfl (lv_at hl 1 rfl) ?_
    refine gX2_15 C hd (rfl : kd 34 = 2) (q := 33) rfl dX2_read_68 (fun y2 => ?_)
    obtain ⟨S1, hc, h⟩ := bv_some h
    refine R_cVv C hd (ccX7_advance l G  hc) kX2_48 rfl (by decide) y2 hl.1 ⟨by decide, by decide⟩ rfl rfl (Nat.le_of_ble_eq_true rfl) dX2_read_71 ⟨Nat.zero_le _, Nat.zero_le _⟩ (fun H locs hd => ?_)
    generalize S1 = S at h hd
    exact sBX2_read_74 C hr hr26 kl1 hd (lv_sub hl [1, 2, 3, 0, 4] rfl) h
def KX2_read_26 (r26 : Nat → Int32 → Int32 → Int32 → St → Option (Int32 × St)) (l1 : Nat) (l2 : Int32) (l4 : Int32) (l5 : Int32) (S : St) : Option (Int32 × St) :=
  (if 700 < l5 then (BX2_read_80 l1 l4 S) else (if l4 = 0 then (if (S 34 5) = 0 then bd (fX2_readBehindPart l1 S) fun x4 S => (BX2_read_60 r26 l1 l2 l5 x4 S) else bd (fX2_readPart l1 l2 S) fun x5 S => (BX2_read_60 r26 l1 l2 l5 x5 S)) else (BX2_read_80 l1 l4 S)))
set_option maxHeartbeats 4000000 in
set_option maxRecDepth 20000 in
theorem sKX2_read_26 (C : Cx p s m args meth c cX2_read 6 RX2 G) (hr : meth.sig.returnType = some .int) {r26 : Nat → Int32 → Int32 → Int32 → St → Option (Int32 × St)} (hr26 : ∀ (l1 : Nat) (l2 : Int32) (l4 : Int32) (l5 : Int32) (S : St) (res : (Int32 × St)) (H : Heap) (locs : List Loc) (ls : Array Slot), kd l1 = 3 → Dy G S s H locs → lv_has ls 6 [(0, .ref (gR G 34)), (1, .ref (gR G l1)), (2, .int l2), (4, .int l4), (5, .int l5)] → r26 l1 l2 l4 l5 S = some res → W p l e (rmL 9 0 0) s m args below meth c H locs 0 0 (MQ below (QI G res.1 res.2) args s 0 0 (Ab G)) (F0 m 26 ls [])) {l1 : Nat} {l2 : Int32} {l4 : Int32} {l5 : Int32} {S : St} {res : (Int32 × St)} {H : Heap} {locs : List Loc} {ls : Array Slot} (kl1 : kd l1 = 3) (hd : Dy G S s H locs) (hl : lv_has ls 6 [(0, .ref (gR G 34)), (1, .ref (gR G l1)), (2, .int l2), (4, .int l4), (5, .int l5)]) (h : KX2_read_26 r26 l1 l2 l4 l5 S = some res) : W p l e (rmL 9 0 0) s m args below meth c H locs 0 0 (MQ below (QI G res.1 res.2) args s 0 0 (Ab G)) (F0 m 26 ls []) := by
  unfold KX2_read_26 at h
  have hx := C.1.1
  have hb := C.1.2.1
  refine lv_iload hx hb dX2_read_26 (lv_at hl 4 rfl) ?_
  refine lv_sipush (v := 700) hx hb dX2_read_28 (by decide) ?_
  refine lv_icmp_gt (tgt := 80) hx hb dX2_read_31 (by decide) (fun c1 => ?_) (fun c1 => ?_)
  · rw [if_pos c1] at h
    exact sBX2_read_80 C hr kl1 hd (lv_sub hl [0, 1, 3] rfl) h
  · rw [if_neg c1] at h
    refine lv_iload hx hb dX2_read_34 (lv_at hl 3 rfl) ?_
    refine lv_if_ne (tgt := 80) hx hb dX2_read_36 (by decide) (fun c2 => ?_) (fun c2 => ?_)
    · rw [if_neg c2] at h
      exact sBX2_read_80 C hr kl1 hd (lv_sub hl [0, 1, 3] rfl) h
    · rw [if_pos c2] at h
      refine lv_aload_n hx hb dX2_read_39 rfl (lv_at hl 0 rfl) ?_
      refine gX2_36 C hd (rfl : kd 34 = 2) dX2_read_40 ?_
      refine lv_if_eq (tgt := 55) hx hb dX2_read_43 (by decide) (fun c3 => ?_) (fun c3 => ?_)
      · rw [if_pos c3] at h
        refine lv_aload_n hx hb dX2_read_55 rfl (lv_at hl 0 rfl) ?_
        refine lv_aload_n hx hb dX2_read_56 rfl (lv_at hl 1 rfl) ?_
        obtain ⟨x4, S1, hc, h⟩ := bd_some h
        refine R_cVi C hd (ccX2_readBehindPart l G kl1 hc) kX2_44 rfl (by decide) (rfl : kd 34 = 2) hl.1 ⟨by decide, by decide⟩ rfl rfl (Nat.le_of_ble_eq_true rfl) dX2_read_57 ⟨Nat.zero_le _, Nat.zero_le _⟩ (fun H locs hd => ?_)
        generalize S1 = S at h hd
        exact sBX2_read_60 C hr hr26 kl1 hd (lv_sub hl [0, 1, 2, 4] rfl) h
      · rw [if_neg c3] at h
        refine lv_aload_n hx hb dX2_read_46 rfl (lv_at hl 0 rfl) ?_
        refine lv_aload_n hx hb dX2_read_47 rfl (lv_at hl 1 rfl) ?_
        refine lv_iload_n hx hb dX2_read_48 rfl (lv_at hl 2 rfl) ?_
        obtain ⟨x5, S1, hc, h⟩ := bd_some h
        refine R_cVi C hd (ccX2_readPart l G kl1 hc) kX2_40 rfl (by decide) (rfl : kd 34 = 2) hl.1 ⟨by decide, by decide⟩ rfl rfl (Nat.le_of_ble_eq_true rfl) dX2_read_49 ⟨Nat.zero_le _, Nat.zero_le _⟩ (fun H locs hd => ?_)
        generalize S1 = S at h hd
        refine lv_goto (tgt := 60) hx hb dX2_read_52 (by decide) ?_
        exact sBX2_read_60 C hr hr26 kl1 hd (lv_sub hl [0, 1, 2, 4] rfl) h
def LX2_read_26 : Nat → Nat → Int32 → Int32 → Int32 → St → Option (Int32 × St)
  | 0 => fun _ _ _ _ _ => none
  | n + 1 => fun l1 l2 l4 l5 S => KX2_read_26 (LX2_read_26 n) l1 l2 l4 l5 S
theorem sLX2_read_26 (C : Cx p s m args meth c cX2_read 6 RX2 G) (hr : meth.sig.returnType = some .int) : ∀ (n : Nat) (l1 : Nat) (l2 : Int32) (l4 : Int32) (l5 : Int32) (S : St) (res : (Int32 × St)) (H : Heap) (locs : List Loc) (ls : Array Slot), kd l1 = 3 → Dy G S s H locs → lv_has ls 6 [(0, .ref (gR G 34)), (1, .ref (gR G l1)), (2, .int l2), (4, .int l4), (5, .int l5)] → LX2_read_26 n l1 l2 l4 l5 S = some res → W p l e (rmL 9 0 0) s m args below meth c H locs 0 0 (MQ below (QI G res.1 res.2) args s 0 0 (Ab G)) (F0 m 26 ls []) := by
  intro n
  induction n with
  | zero => intro l1 l2 l4 l5 S res H locs ls kl1 hd hl h; cases h
  | succ n ih =>
    intro l1 l2 l4 l5 S res H locs ls kl1 hd hl h
    exact sKX2_read_26 C hr ih kl1 hd hl h
def fX2_read (a1 : Nat) (a2 : Int32) (a3 : Int32) (S : St) : Option (Int32 × St) :=
  pf S 34 2 0 fun S => pf S 34 3 0 fun S => bv (fX3_begin a1 a3 S) fun S => bv (fX2_expectPart 1 S) fun S => (LX2_read_26 FU a1 a2 0 0 S)
set_option maxHeartbeats 4000000 in
set_option maxRecDepth 20000 in
theorem sfX2_read (C : Cx p s m args meth c cX2_read 6 RX2 G) (hr : meth.sig.returnType = some .int) {a1 : Nat} {a2 : Int32} {a3 : Int32} {S : St} {res : (Int32 × St)} {H : Heap} {locs : List Loc} {ls : Array Slot} (k1 : kd a1 = 3) (hd : Dy G S s H locs) (hl : lv_has ls 6 [(0, .ref (gR G 34)), (1, .ref (gR G a1)), (2, .int a2), (3, .int a3)]) (h : fX2_read a1 a2 a3 S = some res) : W p l e (rmL 9 0 0) s m args below meth c H locs 0 0 (MQ below (QI G res.1 res.2) args s 0 0 (Ab G)) (F0 m 0 ls []) := by
  unfold fX2_read at h
  have hx := C.1.1
  have hb := C.1.2.1
  refine lv_aload_n hx hb dX2_read_0 rfl (lv_at hl 0 rfl) ?_
  refine lv_iconst (v := 0) hx hb dX2_read_1 (by decide) ?_
  refine pX2_19 C hd (rfl : kd 34 = 2) h dX2_read_2 (fun S H locs hd h => ?_)
  refine lv_aload_n hx hb dX2_read_5 rfl (lv_at hl 0 rfl) ?_
  refine lv_iconst (v := 0) hx hb dX2_read_6 (by decide) ?_
  refine pX2_23 C hd (rfl : kd 34 = 2) h dX2_read_7 (fun S H locs hd h => ?_)
  refine lv_aload_n hx hb dX2_read_10 rfl (lv_at hl 1 rfl) ?_
  refine lv_iload_n hx hb dX2_read_11 rfl (lv_at hl 3 rfl) ?_
  obtain ⟨S1, hc, h⟩ := bv_some h
  refine R_cVv C hd (ccX3_begin l G k1 hc) kX2_26 rfl (by decide) k1 hl.1 ⟨by decide, by decide⟩ rfl rfl (Nat.le_of_ble_eq_true rfl) dX2_read_12 ⟨Nat.zero_le _, Nat.zero_le _⟩ (fun H locs hd => ?_)
  generalize S1 = S at h hd
  refine lv_aload_n hx hb dX2_read_15 rfl (lv_at hl 0 rfl) ?_
  refine lv_iconst (v := 1) hx hb dX2_read_16 (by decide) ?_
  obtain ⟨S1, hc, h⟩ := bv_some h
  refine R_cVv C hd (ccX2_expectPart l G  hc) kX2_32 rfl (by decide) (rfl : kd 34 = 2) hl.1 ⟨by decide, by decide⟩ rfl rfl (Nat.le_of_ble_eq_true rfl) dX2_read_17 ⟨Nat.zero_le _, Nat.zero_le _⟩ (fun H locs hd => ?_)
  generalize S1 = S at h hd
  refine lv_iconst (v := 0) hx hb dX2_read_20 (by decide) ?_
  refine lv_istore (lv' := [(4, .int 0), (0, .ref (gR G 34)), (1, .ref (gR G a1)), (2, .int a2), (3, .int a3)]) hx hb dX2_read_21 hl (by decide) rfl (fun ls hl => ?_)
  refine lv_iconst (v := 0) hx hb dX2_read_23 (by decide) ?_
  refine lv_istore (lv' := [(5, .int 0), (4, .int 0), (0, .ref (gR G 34)), (1, .ref (gR G a1)), (2, .int a2), (3, .int a3)]) hx hb dX2_read_24 hl (by decide) rfl (fun ls hl => ?_)
  exact sLX2_read_26 C hr _ a1 a2 0 0 _ _ _ _ _ k1 hd (lv_sub hl [2, 3, 4, 1, 0] rfl) h
set_option maxRecDepth 20000 in
theorem ccX2_read (l : Launch) (G : Gt) {a1 : Nat} {a2 : Int32} {a3 : Int32} {S : St} {res : (Int32 × St)} (k1 : kd a1 = 3) (h : fX2_read a1 a2 a3 S = some res) : Met l yX2_read (wm yX2_read cX2_read 6 (some .int)) (rmL 9 0 0) (PcW G S [.ref (gR G 34), .ref (gR G a1), .int a2, .int a3]) (QI G res.1 res.2) 0 0 (Ab G) := by
  refine Met.ofW (cc := cX2_read) (maxL := 6) (ret := (some .int)) (by decide) rfl ?_
  intro p e s m args below meth c s₁ B hml hv
  obtain ⟨rfl, hK, hP⟩ := hv
  have C : Cx p s m _ meth c cX2_read 6 RX2 G := ⟨⟨B.exec, B.bytes, hml, findClass_of_methodNamed B.named, fun w hw => atoms_spec (ws := wm yX2_read cX2_read 6 (some .int)) B.pre w (List.mem_cons_of_mem _ hw)⟩, B.notSynchronized, hK⟩
  have hl := lv_entry ([.ref (gR G 34), .ref (gR G a1), .int a2, .int a3]) (n := 6) (Nat.le_of_ble_eq_true rfl)
  rw [lg_entry_eq]
  generalize (lg_sl ([.ref (gR G 34), .ref (gR G a1), .int a2, .int a3]) ++ List.replicate (6 - (lg_sl ([.ref (gR G 34), .ref (gR G a1), .int a2, .int a3])).length) Slot.unset).toArray = ls at hl ⊢
  exact sfX2_read C B.returns k1 ⟨hP, va_S.rf⟩ hl h
def fX8_addPath (a0 : Nat) (a1 : Int32) (a2 : Int32) (a3 : Int32) (S : St) : Option St :=
  rd S (sr a0 6) a1 fun x2 => wr S (sr a0 6) a1 (x2 ||| ((1 : Int32) <<< (a2 &&& 31))) fun S => rd S (sr a0 6) a2 fun x4 => wr S (sr a0 6) a2 (x4 ||| ((1 : Int32) <<< (a1 &&& 31))) fun S => wr S (sr a0 7) ((a1 * 8) + a2) a3 fun S => wr S (sr a0 7) ((a2 * 8) + a1) a3 fun S => pf S a0 1 ((S a0 1) + 1) fun S => some S
set_option maxHeartbeats 4000000 in
set_option maxRecDepth 20000 in
theorem sfX8_addPath (C : Cx p s m args meth c cX8_addPath 4 RX8 G) (hr : meth.sig.returnType = none) {a0 : Nat} {a1 : Int32} {a2 : Int32} {a3 : Int32} {S : St} {res : St} {H : Heap} {locs : List Loc} {ls : Array Slot} (k0 : kd a0 = 8) (hd : Dy G S s H locs) (hl : lv_has ls 4 [(0, .ref (gR G a0)), (1, .int a1), (2, .int a2), (3, .int a3)]) (h : fX8_addPath a0 a1 a2 a3 S = some res) : W p l e (rmL 3 0 0) s m args below meth c H locs 0 0 (MQ below (QV G res) args s 0 0 (Ab G)) (F0 m 0 ls []) := by
  unfold fX8_addPath at h
  have hx := C.1.1
  have hb := C.1.2.1
  refine lv_aload_n hx hb dX8_addPath_0 rfl (lv_at hl 0 rfl) ?_
  refine gX8_21 C hd k0 (q := sr a0 6) rfl dX8_addPath_1 (fun y1 => ?_)
  refine lv_iload_n hx hb dX8_addPath_4 rfl (lv_at hl 1 rfl) ?_
  refine lv_dup2_11 hx hb dX8_addPath_5 rfl rfl ?_
  refine R_iald C hd y1 h dX8_addPath_6 (fun x2 h => ?_)
  refine lv_iconst (v := 1) hx hb dX8_addPath_7 (by decide) ?_
  refine lv_iload_n hx hb dX8_addPath_8 rfl (lv_at hl 2 rfl) ?_
  refine lv_ishl hx hb dX8_addPath_9 ?_
  refine lv_ior hx hb dX8_addPath_10 ?_
  refine R_iast C hd y1 h dX8_addPath_11 (fun S H locs hd h => ?_)
  refine lv_aload_n hx hb dX8_addPath_12 rfl (lv_at hl 0 rfl) ?_
  refine gX8_21 C hd k0 (q := sr a0 6) rfl dX8_addPath_13 (fun y3 => ?_)
  refine lv_iload_n hx hb dX8_addPath_16 rfl (lv_at hl 2 rfl) ?_
  refine lv_dup2_11 hx hb dX8_addPath_17 rfl rfl ?_
  refine R_iald C hd y3 h dX8_addPath_18 (fun x4 h => ?_)
  refine lv_iconst (v := 1) hx hb dX8_addPath_19 (by decide) ?_
  refine lv_iload_n hx hb dX8_addPath_20 rfl (lv_at hl 1 rfl) ?_
  refine lv_ishl hx hb dX8_addPath_21 ?_
  refine lv_ior hx hb dX8_addPath_22 ?_
  refine R_iast C hd y3 h dX8_addPath_23 (fun S H locs hd h => ?_)
  refine lv_aload_n hx hb dX8_addPath_24 rfl (lv_at hl 0 rfl) ?_
  refine gX8_24 C hd k0 (q := sr a0 7) rfl dX8_addPath_25 (fun y5 => ?_)
  refine lv_iload_n hx hb dX8_addPath_28 rfl (lv_at hl 1 rfl) ?_
  refine lv_bipush (v := 8) hx hb dX8_addPath_29 (by decide) ?_
  refine lv_imul hx hb dX8_addPath_31 ?_
  refine lv_iload_n hx hb dX8_addPath_32 rfl (lv_at hl 2 rfl) ?_
  refine lv_iadd hx hb dX8_addPath_33 ?_
  refine lv_iload_n hx hb dX8_addPath_34 rfl (lv_at hl 3 rfl) ?_
  refine R_iast C hd y5 h dX8_addPath_35 (fun S H locs hd h => ?_)
  refine lv_aload_n hx hb dX8_addPath_36 rfl (lv_at hl 0 rfl) ?_
  refine gX8_24 C hd k0 (q := sr a0 7) rfl dX8_addPath_37 (fun y6 => ?_)
  refine lv_iload_n hx hb dX8_addPath_40 rfl (lv_at hl 2 rfl) ?_
  refine lv_bipush (v := 8) hx hb dX8_addPath_41 (by decide) ?_
  refine lv_imul hx hb dX8_addPath_43 ?_
  refine lv_iload_n hx hb dX8_addPath_44 rfl (lv_at hl 1 rfl) ?_
  refine lv_iadd hx hb dX8_addPath_45 ?_
  refine lv_iload_n hx hb dX8_addPath_46 rfl (lv_at hl 3 rfl) ?_
  refine R_iast C hd y6 h dX8_addPath_47 (fun S H locs hd h => ?_)
  refine lv_aload_n hx hb dX8_addPath_48 rfl (lv_at hl 0 rfl) ?_
  refine lv_dup hx hb dX8_addPath_49 rfl ?_
  refine gX8_55 C hd k0 dX8_addPath_50 ?_
  refine lv_iconst (v := 1) hx hb dX8_addPath_53 (by decide) ?_
  refine lv_iadd hx hb dX8_addPath_54 ?_
  refine pX8_55 C hd k0 h dX8_addPath_55 (fun S H locs hd h => ?_)
  exact R_vret C hr hd h dX8_addPath_58
set_option maxRecDepth 20000 in
theorem ccX8_addPath (l : Launch) (G : Gt) {a0 : Nat} {a1 : Int32} {a2 : Int32} {a3 : Int32} {S : St} {res : St} (k0 : kd a0 = 8) (h : fX8_addPath a0 a1 a2 a3 S = some res) : Met l yX8_addPath (wm yX8_addPath cX8_addPath 4 (none)) (rmL 3 0 0) (PcW G S [.ref (gR G a0), .int a1, .int a2, .int a3]) (QV G res) 0 0 (Ab G) := by
  refine Met.ofW (cc := cX8_addPath) (maxL := 4) (ret := none) (by decide) rfl ?_
  intro p e s m args below meth c s₁ B hml hv
  obtain ⟨rfl, hK, hP⟩ := hv
  have C : Cx p s m _ meth c cX8_addPath 4 RX8 G := ⟨⟨B.exec, B.bytes, hml, findClass_of_methodNamed B.named, fun w hw => atoms_spec (ws := wm yX8_addPath cX8_addPath 4 (none)) B.pre w (List.mem_cons_of_mem _ hw)⟩, B.notSynchronized, hK⟩
  have hl := lv_entry ([.ref (gR G a0), .int a1, .int a2, .int a3]) (n := 4) (Nat.le_of_ble_eq_true rfl)
  rw [lg_entry_eq]
  generalize (lg_sl ([.ref (gR G a0), .int a1, .int a2, .int a3]) ++ List.replicate (4 - (lg_sl ([.ref (gR G a0), .int a1, .int a2, .int a3])).length) Slot.unset).toArray = ls at hl ⊢
  exact sfX8_addPath C B.returns k0 ⟨hP, va_S.rf⟩ hl h
def fX8_codeEnd (a0 : Nat) (S : St) : Option (Int32 × St) :=
  bd (fX3_end (sr a0 12) S) fun x2 S => bd (fX3_end (sr a0 13) S) fun x4 S => vl (if x2 < x4 then x4 else x2) fun x5 => ri x5 S
set_option maxHeartbeats 4000000 in
set_option maxRecDepth 20000 in
theorem sfX8_codeEnd (C : Cx p s m args meth c cX8_codeEnd 1 RX8 G) (hr : meth.sig.returnType = some .int) {a0 : Nat} {S : St} {res : (Int32 × St)} {H : Heap} {locs : List Loc} {ls : Array Slot} (k0 : kd a0 = 8) (hd : Dy G S s H locs) (hl : lv_has ls 1 [(0, .ref (gR G a0))]) (h : fX8_codeEnd a0 S = some res) : W p l e (rmL 4 0 0) s m args below meth c H locs 0 0 (MQ below (QI G res.1 res.2) args s 0 0 (Ab G)) (F0 m 0 ls []) := by
  unfold fX8_codeEnd at h
  have hx := C.1.1
  have hb := C.1.2.1
  refine lv_aload_n hx hb dX8_codeEnd_0 rfl (lv_at hl 0 rfl) ?_
  refine gX8_44 C hd k0 (q := sr a0 12) rfl dX8_codeEnd_1 (fun y1 => ?_)
  obtain ⟨x2, S1, hc, h⟩ := bd_some h
  refine R_cVi C hd (ccX3_end l G y1 hc) kX8_72 rfl (by decide) y1 hl.1 ⟨by decide, by decide⟩ rfl rfl (Nat.le_of_ble_eq_true rfl) dX8_codeEnd_4 ⟨Nat.zero_le _, Nat.zero_le _⟩ (fun H locs hd => ?_)
  generalize S1 = S at h hd
  refine lv_aload_n hx hb dX8_codeEnd_7 rfl (lv_at hl 0 rfl) ?_
  refine gX8_48 C hd k0 (q := sr a0 13) rfl dX8_codeEnd_8 (fun y3 => ?_)
  obtain ⟨x4, S1, hc, h⟩ := bd_some h
  refine R_cVi C hd (ccX3_end l G y3 hc) kX8_72 rfl (by decide) y3 hl.1 ⟨by decide, by decide⟩ rfl rfl (Nat.le_of_ble_eq_true rfl) dX8_codeEnd_11 ⟨Nat.zero_le _, Nat.zero_le _⟩ (fun H locs hd => ?_)
  generalize S1 = S at h hd
  refine R_mmax C hl.1 kmX8_76 (Nat.le_of_ble_eq_true rfl) (Nat.le_of_ble_eq_true rfl) (Nat.le_of_ble_eq_true rfl) (Nat.le_of_ble_eq_true rfl) dX8_codeEnd_14 ?_
  refine R_vl h (fun x5 h => ?_)
  exact R_iret C hr hd h dX8_codeEnd_17
set_option maxRecDepth 20000 in
theorem ccX8_codeEnd (l : Launch) (G : Gt) {a0 : Nat} {S : St} {res : (Int32 × St)} (k0 : kd a0 = 8) (h : fX8_codeEnd a0 S = some res) : Met l yX8_codeEnd (wm yX8_codeEnd cX8_codeEnd 1 (some .int)) (rmL 4 0 0) (PcW G S [.ref (gR G a0)]) (QI G res.1 res.2) 0 0 (Ab G) := by
  refine Met.ofW (cc := cX8_codeEnd) (maxL := 1) (ret := (some .int)) (by decide) rfl ?_
  intro p e s m args below meth c s₁ B hml hv
  obtain ⟨rfl, hK, hP⟩ := hv
  have C : Cx p s m _ meth c cX8_codeEnd 1 RX8 G := ⟨⟨B.exec, B.bytes, hml, findClass_of_methodNamed B.named, fun w hw => atoms_spec (ws := wm yX8_codeEnd cX8_codeEnd 1 (some .int)) B.pre w (List.mem_cons_of_mem _ hw)⟩, B.notSynchronized, hK⟩
  have hl := lv_entry ([.ref (gR G a0)]) (n := 1) (Nat.le_of_ble_eq_true rfl)
  rw [lg_entry_eq]
  generalize (lg_sl ([.ref (gR G a0)]) ++ List.replicate (1 - (lg_sl ([.ref (gR G a0)])).length) Slot.unset).toArray = ls at hl ⊢
  exact sfX8_codeEnd C B.returns k0 ⟨hP, va_S.rf⟩ hl h
def fX8_clear (a0 : Nat) (S : St) : Option St :=
  pf S a0 0 0 fun S => pf S a0 1 0 fun S => pf S a0 2 0 fun S => bv (fJ7_fill_53178 (sr a0 6) 0 S) fun S => bv (fJ7_fill_53178 (sr a0 7) 1000000 S) fun S => bv (fJ7_fill_53178 (sr a0 11) ((-1)) S) fun S => bv (fX3_begin (sr a0 12) 0 S) fun S => bv (fX3_begin (sr a0 13) 0 S) fun S => some S
set_option maxHeartbeats 4000000 in
set_option maxRecDepth 20000 in
theorem sfX8_clear (C : Cx p s m args meth c cX8_clear 1 RX8 G) (hr : meth.sig.returnType = none) {a0 : Nat} {S : St} {res : St} {H : Heap} {locs : List Loc} {ls : Array Slot} (k0 : kd a0 = 8) (hd : Dy G S s H locs) (hl : lv_has ls 1 [(0, .ref (gR G a0))]) (h : fX8_clear a0 S = some res) : W p l e (rmL 4 0 0) s m args below meth c H locs 0 0 (MQ below (QV G res) args s 0 0 (Ab G)) (F0 m 0 ls []) := by
  unfold fX8_clear at h
  have hx := C.1.1
  have hb := C.1.2.1
  refine lv_aload_n hx hb dX8_clear_0 rfl (lv_at hl 0 rfl) ?_
  refine lv_iconst (v := 0) hx hb dX8_clear_1 (by decide) ?_
  refine pX8_51 C hd k0 h dX8_clear_2 (fun S H locs hd h => ?_)
  refine lv_aload_n hx hb dX8_clear_5 rfl (lv_at hl 0 rfl) ?_
  refine lv_iconst (v := 0) hx hb dX8_clear_6 (by decide) ?_
  refine pX8_55 C hd k0 h dX8_clear_7 (fun S H locs hd h => ?_)
  refine lv_aload_n hx hb dX8_clear_10 rfl (lv_at hl 0 rfl) ?_
  refine lv_iconst (v := 0) hx hb dX8_clear_11 (by decide) ?_
  refine pX8_58 C hd k0 h dX8_clear_12 (fun S H locs hd h => ?_)
  refine lv_aload_n hx hb dX8_clear_15 rfl (lv_at hl 0 rfl) ?_
  refine gX8_21 C hd k0 (q := sr a0 6) rfl dX8_clear_16 (fun y1 => ?_)
  refine lv_iconst (v := 0) hx hb dX8_clear_19 (by decide) ?_
  obtain ⟨S1, hc, h⟩ := bv_some h
  refine R_cSv C hd (ccJ7_fill_53178 l G y1 hc) kX8_61  hl.1 ⟨by decide, by decide⟩ rfl rfl (Nat.le_of_ble_eq_true rfl) dX8_clear_20 ⟨Nat.zero_le _, Nat.zero_le _⟩ (fun H locs hd => ?_)
  generalize S1 = S at h hd
  refine lv_aload_n hx hb dX8_clear_23 rfl (lv_at hl 0 rfl) ?_
  refine gX8_24 C hd k0 (q := sr a0 7) rfl dX8_clear_24 (fun y2 => ?_)
  refine lv_ldc hx hb C.1.2.2.2.1 (C.1.2.2.2.2 _ kcX8_67) dX8_clear_27 ?_
  obtain ⟨S1, hc, h⟩ := bv_some h
  refine R_cSv C hd (ccJ7_fill_53178 l G y2 hc) kX8_61  hl.1 ⟨by decide, by decide⟩ rfl rfl (Nat.le_of_ble_eq_true rfl) dX8_clear_29 ⟨Nat.zero_le _, Nat.zero_le _⟩ (fun H locs hd => ?_)
  generalize S1 = S at h hd
  refine lv_aload_n hx hb dX8_clear_32 rfl (lv_at hl 0 rfl) ?_
  refine gX8_36 C hd k0 (q := sr a0 11) rfl dX8_clear_33 (fun y3 => ?_)
  refine lv_iconst (v := -1) hx hb dX8_clear_36 (by decide) ?_
  obtain ⟨S1, hc, h⟩ := bv_some h
  refine R_cSv C hd (ccJ7_fill_53178 l G y3 hc) kX8_61  hl.1 ⟨by decide, by decide⟩ rfl rfl (Nat.le_of_ble_eq_true rfl) dX8_clear_37 ⟨Nat.zero_le _, Nat.zero_le _⟩ (fun H locs hd => ?_)
  generalize S1 = S at h hd
  refine lv_aload_n hx hb dX8_clear_40 rfl (lv_at hl 0 rfl) ?_
  refine gX8_44 C hd k0 (q := sr a0 12) rfl dX8_clear_41 (fun y4 => ?_)
  refine lv_iconst (v := 0) hx hb dX8_clear_44 (by decide) ?_
  obtain ⟨S1, hc, h⟩ := bv_some h
  refine R_cVv C hd (ccX3_begin l G y4 hc) kX8_68 rfl (by decide) y4 hl.1 ⟨by decide, by decide⟩ rfl rfl (Nat.le_of_ble_eq_true rfl) dX8_clear_45 ⟨Nat.zero_le _, Nat.zero_le _⟩ (fun H locs hd => ?_)
  generalize S1 = S at h hd
  refine lv_aload_n hx hb dX8_clear_48 rfl (lv_at hl 0 rfl) ?_
  refine gX8_48 C hd k0 (q := sr a0 13) rfl dX8_clear_49 (fun y5 => ?_)
  refine lv_iconst (v := 0) hx hb dX8_clear_52 (by decide) ?_
  obtain ⟨S1, hc, h⟩ := bv_some h
  refine R_cVv C hd (ccX3_begin l G y5 hc) kX8_68 rfl (by decide) y5 hl.1 ⟨by decide, by decide⟩ rfl rfl (Nat.le_of_ble_eq_true rfl) dX8_clear_53 ⟨Nat.zero_le _, Nat.zero_le _⟩ (fun H locs hd => ?_)
  generalize S1 = S at h hd
  exact R_vret C hr hd h dX8_clear_56
set_option maxRecDepth 20000 in
theorem ccX8_clear (l : Launch) (G : Gt) {a0 : Nat} {S : St} {res : St} (k0 : kd a0 = 8) (h : fX8_clear a0 S = some res) : Met l yX8_clear (wm yX8_clear cX8_clear 1 (none)) (rmL 4 0 0) (PcW G S [.ref (gR G a0)]) (QV G res) 0 0 (Ab G) := by
  refine Met.ofW (cc := cX8_clear) (maxL := 1) (ret := none) (by decide) rfl ?_
  intro p e s m args below meth c s₁ B hml hv
  obtain ⟨rfl, hK, hP⟩ := hv
  have C : Cx p s m _ meth c cX8_clear 1 RX8 G := ⟨⟨B.exec, B.bytes, hml, findClass_of_methodNamed B.named, fun w hw => atoms_spec (ws := wm yX8_clear cX8_clear 1 (none)) B.pre w (List.mem_cons_of_mem _ hw)⟩, B.notSynchronized, hK⟩
  have hl := lv_entry ([.ref (gR G a0)]) (n := 1) (Nat.le_of_ble_eq_true rfl)
  rw [lg_entry_eq]
  generalize (lg_sl ([.ref (gR G a0)]) ++ List.replicate (1 - (lg_sl ([.ref (gR G a0)])).length) Slot.unset).toArray = ls at hl ⊢
  exact sfX8_clear C B.returns k0 ⟨hP, va_S.rf⟩ hl h
def BX8_measure_112 (r30 : Nat → Int32 → St → Option St) (r40 : Nat → Int32 → Int32 → St → Option St) (r50 : Nat → Int32 → Int32 → Int32 → St → Option St) (l0 : Nat) (l1 : Int32) (l2 : Int32) (l3 : Int32) (S : St) : Option St :=
  vl (l3 + 1) fun x1 => (r50 l0 l1 l2 x1 S)
set_option maxHeartbeats 4000000 in
set_option maxRecDepth 20000 in
theorem sBX8_measure_112 (C : Cx p s m args meth c cX8_measure 5 RX8 G) (hr : meth.sig.returnType = none) {r30 : Nat → Int32 → St → Option St} {r40 : Nat → Int32 → Int32 → St → Option St} {r50 : Nat → Int32 → Int32 → Int32 → St → Option St} (hr30 : ∀ (l0 : Nat) (l1 : Int32) (S : St) (res : St) (H : Heap) (locs : List Loc) (ls : Array Slot), kd l0 = 8 → Dy G S s H locs → lv_has ls 5 [(0, .ref (gR G l0)), (1, .int l1)] → r30 l0 l1 S = some res → W p l e (rmL 3 0 0) s m args below meth c H locs 0 0 (MQ below (QV G res) args s 0 0 (Ab G)) (F0 m 30 ls [])) (hr40 : ∀ (l0 : Nat) (l1 : Int32) (l2 : Int32) (S : St) (res : St) (H : Heap) (locs : List Loc) (ls : Array Slot), kd l0 = 8 → Dy G S s H locs → lv_has ls 5 [(0, .ref (gR G l0)), (1, .int l1), (2, .int l2)] → r40 l0 l1 l2 S = some res → W p l e (rmL 3 0 0) s m args below meth c H locs 0 0 (MQ below (QV G res) args s 0 0 (Ab G)) (F0 m 40 ls [])) (hr50 : ∀ (l0 : Nat) (l1 : Int32) (l2 : Int32) (l3 : Int32) (S : St) (res : St) (H : Heap) (locs : List Loc) (ls : Array Slot), kd l0 = 8 → Dy G S s H locs → lv_has ls 5 [(0, .ref (gR G l0)), (1, .int l1), (2, .int l2), (3, .int l3)] → r50 l0 l1 l2 l3 S = some res → W p l e (rmL 3 0 0) s m args below meth c H locs 0 0 (MQ below (QV G res) args s 0 0 (Ab G)) (F0 m 50 ls [])) {l0 : Nat} {l1 : Int32} {l2 : Int32} {l3 : Int32} {S : St} {res : St} {H : Heap} {locs : List Loc} {ls : Array Slot} (kl0 : kd l0 = 8) (hd : Dy G S s H locs) (hl : lv_has ls 5 [(0, .ref (gR G l0)), (1, .int l1), (2, .int l2), (3, .int l3)]) (h : BX8_measure_112 r30 r40 r50 l0 l1 l2 l3 S = some res) : W p l e (rmL 3 0 0) s m args below meth c H locs 0 0 (MQ below (QV G res) args s 0 0 (Ab G)) (F0 m 112 ls []) := by
  unfold BX8_measure_112 at h
  have hx := C.1.1
  have hb := C.1.2.1
  refine R_vi h (fun x1 ex1 h => ?_)
  refine lv_iinc (v := x1) (lv' := [(3, .int x1), (0, .ref (gR G l0)), (1, .int l1), (2, .int l2)]) hx hb dX8_measure_112 hl (k := 3) rfl (by rw [ex1]; rfl) (by decide) rfl (fun ls hl => ?_)
  refine lv_goto (tgt := 50) hx hb dX8_measure_115 (by decide) ?_
  exact hr50 l0 l1 l2 x1 _ _ _ _ _ kl0 hd (lv_sub hl [1, 2, 3, 0] rfl) h
def KX8_measure_50 (r30 : Nat → Int32 → St → Option St) (r40 : Nat → Int32 → Int32 → St → Option St) (r50 : Nat → Int32 → Int32 → Int32 → St → Option St) (l0 : Nat) (l1 : Int32) (l2 : Int32) (l3 : Int32) (S : St) : Option St :=
  (if (S l0 0) ≤ l3 then vl (l2 + 1) fun x2 => (r40 l0 l1 x2 S) else rd S (sr l0 7) ((l2 * 8) + l1) fun x4 => rd S (sr l0 7) ((l1 * 8) + l3) fun x6 => vl (x4 + x6) fun x7 => rd S (sr l0 7) ((l2 * 8) + l3) fun x9 => (if x9 ≤ x7 then (BX8_measure_112 r30 r40 r50 l0 l1 l2 l3 S) else wr S (sr l0 7) ((l2 * 8) + l3) x7 fun S => (BX8_measure_112 r30 r40 r50 l0 l1 l2 l3 S)))
set_option maxHeartbeats 4000000 in
set_option maxRecDepth 20000 in
theorem sKX8_measure_50 (C : Cx p s m args meth c cX8_measure 5 RX8 G) (hr : meth.sig.returnType = none) {r30 : Nat → Int32 → St → Option St} {r40 : Nat → Int32 → Int32 → St → Option St} {r50 : Nat → Int32 → Int32 → Int32 → St → Option St} (hr30 : ∀ (l0 : Nat) (l1 : Int32) (S : St) (res : St) (H : Heap) (locs : List Loc) (ls : Array Slot), kd l0 = 8 → Dy G S s H locs → lv_has ls 5 [(0, .ref (gR G l0)), (1, .int l1)] → r30 l0 l1 S = some res → W p l e (rmL 3 0 0) s m args below meth c H locs 0 0 (MQ below (QV G res) args s 0 0 (Ab G)) (F0 m 30 ls [])) (hr40 : ∀ (l0 : Nat) (l1 : Int32) (l2 : Int32) (S : St) (res : St) (H : Heap) (locs : List Loc) (ls : Array Slot), kd l0 = 8 → Dy G S s H locs → lv_has ls 5 [(0, .ref (gR G l0)), (1, .int l1), (2, .int l2)] → r40 l0 l1 l2 S = some res → W p l e (rmL 3 0 0) s m args below meth c H locs 0 0 (MQ below (QV G res) args s 0 0 (Ab G)) (F0 m 40 ls [])) (hr50 : ∀ (l0 : Nat) (l1 : Int32) (l2 : Int32) (l3 : Int32) (S : St) (res : St) (H : Heap) (locs : List Loc) (ls : Array Slot), kd l0 = 8 → Dy G S s H locs → lv_has ls 5 [(0, .ref (gR G l0)), (1, .int l1), (2, .int l2), (3, .int l3)] → r50 l0 l1 l2 l3 S = some res → W p l e (rmL 3 0 0) s m args below meth c H locs 0 0 (MQ below (QV G res) args s 0 0 (Ab G)) (F0 m 50 ls [])) {l0 : Nat} {l1 : Int32} {l2 : Int32} {l3 : Int32} {S : St} {res : St} {H : Heap} {locs : List Loc} {ls : Array Slot} (kl0 : kd l0 = 8) (hd : Dy G S s H locs) (hl : lv_has ls 5 [(0, .ref (gR G l0)), (1, .int l1), (2, .int l2), (3, .int l3)]) (h : KX8_measure_50 r30 r40 r50 l0 l1 l2 l3 S = some res) : W p l e (rmL 3 0 0) s m args below meth c H locs 0 0 (MQ below (QV G res) args s 0 0 (Ab G)) (F0 m 50 ls []) := by
  unfold KX8_measure_50 at h
  have hx := C.1.1
  have hb := C.1.2.1
  refine lv_iload_n hx hb dX8_measure_50 rfl (lv_at hl 3 rfl) ?_
  refine lv_aload_n hx hb dX8_measure_51 rfl (lv_at hl 0 rfl) ?_
  refine gX8_51 C hd kl0 dX8_measure_52 ?_
  refine lv_icmp_ge (tgt := 118) hx hb dX8_measure_55 (by decide) (fun c1 => ?_) (fun c1 => ?_)
  · rw [if_pos c1] at h
    refine R_vi h (fun x2 ex2 h => ?_)
    refine lv_iinc (v := x2) (lv' := [(2, .int x2), (0, .ref (gR G l0)), (1, .int l1), (3, .int l3)]) hx hb dX8_measure_118 hl (k := 2) rfl (by rw [ex2]; rfl) (by decide) rfl (fun ls hl => ?_)
    refine lv_goto (tgt := 40) hx hb dX8_measure_121 (by decide) ?_
    exact hr40 l0 l1 x2 _ _ _ _ _ kl0 hd (lv_sub hl [1, 2, 0] rfl) h
  · rw [if_neg c1] at h
    refine lv_aload_n hx hb dX8_measure_58 rfl (lv_at hl 0 rfl) ?_
    refine gX8_24 C hd kl0 (q := sr l0 7) rfl dX8_measure_59 (fun y3 => ?_)
    refine lv_iload_n hx hb dX8_measure_62 rfl (lv_at hl 2 rfl) ?_
    refine lv_bipush (v := 8) hx hb dX8_measure_63 (by decide) ?_
    refine lv_imul hx hb dX8_measure_65 ?_
    refine lv_iload_n hx hb dX8_measure_66 rfl (lv_at hl 1 rfl) ?_
    refine lv_iadd hx hb dX8_measure_67 ?_
    refine R_iald C hd y3 h dX8_measure_68 (fun x4 h => ?_)
    refine lv_aload_n hx hb dX8_measure_69 rfl (lv_at hl 0 rfl) ?_
    refine gX8_24 C hd kl0 (q := sr l0 7) rfl dX8_measure_70 (fun y5 => ?_)
    refine lv_iload_n hx hb dX8_measure_73 rfl (lv_at hl 1 rfl) ?_
    refine lv_bipush (v := 8) hx hb dX8_measure_74 (by decide) ?_
    refine lv_imul hx hb dX8_measure_76 ?_
    refine lv_iload_n hx hb dX8_measure_77 rfl (lv_at hl 3 rfl) ?_
    refine lv_iadd hx hb dX8_measure_78 ?_
    refine R_iald C hd y5 h dX8_measure_79 (fun x6 h => ?_)
    refine lv_iadd hx hb dX8_measure_80 ?_
    refine R_vl h (fun x7 h => ?_)
    refine lv_istore (lv' := [(4, .int x7), (0, .ref (gR G l0)), (1, .int l1), (2, .int l2), (3, .int l3)]) hx hb dX8_measure_81 hl (by decide) rfl (fun ls hl => ?_)
    refine lv_iload hx hb dX8_measure_83 (lv_at hl 0 rfl) ?_
    refine lv_aload_n hx hb dX8_measure_85 rfl (lv_at hl 1 rfl) ?_
    refine gX8_24 C hd kl0 (q := sr l0 7) rfl dX8_measure_86 (fun y8 => ?_)
    refine lv_iload_n hx hb dX8_measure_89 rfl (lv_at hl 3 rfl) ?_
    refine lv_bipush (v := 8) hx hb dX8_measure_90 (by decide) ?_
    refine lv_imul hx hb dX8_measure_92 ?_
    refine lv_iload_n hx hb dX8_measure_93 rfl (lv_at hl 4 rfl) ?_
    refine lv_iadd hx hb dX8_measure_94 ?_
    refine R_iald C hd y8 h dX8_measure_95 (fun x9 h => ?_)
    refine lv_icmp_ge (tgt := 112) hx hb dX8_measure_96 (by decide) (fun c10 => ?_) (fun c10 => ?_)
    · rw [if_pos c10] at h
      exact sBX8_measure_112 C hr hr30 hr40 hr50 kl0 hd (lv_sub hl [1, 2, 3, 4] rfl) h
    · rw [if_neg c10] at h
      refine lv_aload_n hx hb dX8_measure_99 rfl (lv_at hl 1 rfl) ?_
      refine gX8_24 C hd kl0 (q := sr l0 7) rfl dX8_measure_100 (fun y11 => ?_)
      refine lv_iload_n hx hb dX8_measure_103 rfl (lv_at hl 3 rfl) ?_
      refine lv_bipush (v := 8) hx hb dX8_measure_104 (by decide) ?_
      refine lv_imul hx hb dX8_measure_106 ?_
      refine lv_iload_n hx hb dX8_measure_107 rfl (lv_at hl 4 rfl) ?_
      refine lv_iadd hx hb dX8_measure_108 ?_
      refine lv_iload hx hb dX8_measure_109 (lv_at hl 0 rfl) ?_
      refine R_iast C hd y11 h dX8_measure_111 (fun S H locs hd h => ?_)
      exact sBX8_measure_112 C hr hr30 hr40 hr50 kl0 hd (lv_sub hl [1, 2, 3, 4] rfl) h
def LX8_measure_50 (r30 : Nat → Int32 → St → Option St) (r40 : Nat → Int32 → Int32 → St → Option St) : Nat → Nat → Int32 → Int32 → Int32 → St → Option St
  | 0 => fun _ _ _ _ _ => none
  | n + 1 => fun l0 l1 l2 l3 S => KX8_measure_50 r30 r40 (LX8_measure_50 r30 r40 n) l0 l1 l2 l3 S
theorem sLX8_measure_50 (C : Cx p s m args meth c cX8_measure 5 RX8 G) (hr : meth.sig.returnType = none) {r30 : Nat → Int32 → St → Option St} {r40 : Nat → Int32 → Int32 → St → Option St} (hr30 : ∀ (l0 : Nat) (l1 : Int32) (S : St) (res : St) (H : Heap) (locs : List Loc) (ls : Array Slot), kd l0 = 8 → Dy G S s H locs → lv_has ls 5 [(0, .ref (gR G l0)), (1, .int l1)] → r30 l0 l1 S = some res → W p l e (rmL 3 0 0) s m args below meth c H locs 0 0 (MQ below (QV G res) args s 0 0 (Ab G)) (F0 m 30 ls [])) (hr40 : ∀ (l0 : Nat) (l1 : Int32) (l2 : Int32) (S : St) (res : St) (H : Heap) (locs : List Loc) (ls : Array Slot), kd l0 = 8 → Dy G S s H locs → lv_has ls 5 [(0, .ref (gR G l0)), (1, .int l1), (2, .int l2)] → r40 l0 l1 l2 S = some res → W p l e (rmL 3 0 0) s m args below meth c H locs 0 0 (MQ below (QV G res) args s 0 0 (Ab G)) (F0 m 40 ls [])) : ∀ (n : Nat) (l0 : Nat) (l1 : Int32) (l2 : Int32) (l3 : Int32) (S : St) (res : St) (H : Heap) (locs : List Loc) (ls : Array Slot), kd l0 = 8 → Dy G S s H locs → lv_has ls 5 [(0, .ref (gR G l0)), (1, .int l1), (2, .int l2), (3, .int l3)] → LX8_measure_50 r30 r40 n l0 l1 l2 l3 S = some res → W p l e (rmL 3 0 0) s m args below meth c H locs 0 0 (MQ below (QV G res) args s 0 0 (Ab G)) (F0 m 50 ls []) := by
  intro n
  induction n with
  | zero => intro l0 l1 l2 l3 S res H locs ls kl0 hd hl h; cases h
  | succ n ih =>
    intro l0 l1 l2 l3 S res H locs ls kl0 hd hl h
    exact sKX8_measure_50 C hr hr30 hr40 ih kl0 hd hl h
def KX8_measure_40 (r30 : Nat → Int32 → St → Option St) (r40 : Nat → Int32 → Int32 → St → Option St) (l0 : Nat) (l1 : Int32) (l2 : Int32) (S : St) : Option St :=
  (if (S l0 0) ≤ l2 then vl (l1 + 1) fun x2 => (r30 l0 x2 S) else (LX8_measure_50 r30 r40 FU l0 l1 l2 0 S))
set_option maxHeartbeats 4000000 in
set_option maxRecDepth 20000 in
theorem sKX8_measure_40 (C : Cx p s m args meth c cX8_measure 5 RX8 G) (hr : meth.sig.returnType = none) {r30 : Nat → Int32 → St → Option St} {r40 : Nat → Int32 → Int32 → St → Option St} (hr30 : ∀ (l0 : Nat) (l1 : Int32) (S : St) (res : St) (H : Heap) (locs : List Loc) (ls : Array Slot), kd l0 = 8 → Dy G S s H locs → lv_has ls 5 [(0, .ref (gR G l0)), (1, .int l1)] → r30 l0 l1 S = some res → W p l e (rmL 3 0 0) s m args below meth c H locs 0 0 (MQ below (QV G res) args s 0 0 (Ab G)) (F0 m 30 ls [])) (hr40 : ∀ (l0 : Nat) (l1 : Int32) (l2 : Int32) (S : St) (res : St) (H : Heap) (locs : List Loc) (ls : Array Slot), kd l0 = 8 → Dy G S s H locs → lv_has ls 5 [(0, .ref (gR G l0)), (1, .int l1), (2, .int l2)] → r40 l0 l1 l2 S = some res → W p l e (rmL 3 0 0) s m args below meth c H locs 0 0 (MQ below (QV G res) args s 0 0 (Ab G)) (F0 m 40 ls [])) {l0 : Nat} {l1 : Int32} {l2 : Int32} {S : St} {res : St} {H : Heap} {locs : List Loc} {ls : Array Slot} (kl0 : kd l0 = 8) (hd : Dy G S s H locs) (hl : lv_has ls 5 [(0, .ref (gR G l0)), (1, .int l1), (2, .int l2)]) (h : KX8_measure_40 r30 r40 l0 l1 l2 S = some res) : W p l e (rmL 3 0 0) s m args below meth c H locs 0 0 (MQ below (QV G res) args s 0 0 (Ab G)) (F0 m 40 ls []) := by
  unfold KX8_measure_40 at h
  have hx := C.1.1
  have hb := C.1.2.1
  refine lv_iload_n hx hb dX8_measure_40 rfl (lv_at hl 2 rfl) ?_
  refine lv_aload_n hx hb dX8_measure_41 rfl (lv_at hl 0 rfl) ?_
  refine gX8_51 C hd kl0 dX8_measure_42 ?_
  refine lv_icmp_ge (tgt := 124) hx hb dX8_measure_45 (by decide) (fun c1 => ?_) (fun c1 => ?_)
  · rw [if_pos c1] at h
    refine R_vi h (fun x2 ex2 h => ?_)
    refine lv_iinc (v := x2) (lv' := [(1, .int x2), (0, .ref (gR G l0)), (2, .int l2)]) hx hb dX8_measure_124 hl (k := 1) rfl (by rw [ex2]; rfl) (by decide) rfl (fun ls hl => ?_)
    refine lv_goto (tgt := 30) hx hb dX8_measure_127 (by decide) ?_
    exact hr30 l0 x2 _ _ _ _ _ kl0 hd (lv_sub hl [1, 0] rfl) h
  · rw [if_neg c1] at h
    refine lv_iconst (v := 0) hx hb dX8_measure_48 (by decide) ?_
    refine lv_istore_n (lv' := [(3, .int 0), (0, .ref (gR G l0)), (1, .int l1), (2, .int l2)]) hx hb dX8_measure_49 rfl hl (by decide) rfl (fun ls hl => ?_)
    exact sLX8_measure_50 C hr hr30 hr40 _ l0 l1 l2 0 _ _ _ _ _ kl0 hd (lv_sub hl [1, 2, 3, 0] rfl) h
def LX8_measure_40 (r30 : Nat → Int32 → St → Option St) : Nat → Nat → Int32 → Int32 → St → Option St
  | 0 => fun _ _ _ _ => none
  | n + 1 => fun l0 l1 l2 S => KX8_measure_40 r30 (LX8_measure_40 r30 n) l0 l1 l2 S
theorem sLX8_measure_40 (C : Cx p s m args meth c cX8_measure 5 RX8 G) (hr : meth.sig.returnType = none) {r30 : Nat → Int32 → St → Option St} (hr30 : ∀ (l0 : Nat) (l1 : Int32) (S : St) (res : St) (H : Heap) (locs : List Loc) (ls : Array Slot), kd l0 = 8 → Dy G S s H locs → lv_has ls 5 [(0, .ref (gR G l0)), (1, .int l1)] → r30 l0 l1 S = some res → W p l e (rmL 3 0 0) s m args below meth c H locs 0 0 (MQ below (QV G res) args s 0 0 (Ab G)) (F0 m 30 ls [])) : ∀ (n : Nat) (l0 : Nat) (l1 : Int32) (l2 : Int32) (S : St) (res : St) (H : Heap) (locs : List Loc) (ls : Array Slot), kd l0 = 8 → Dy G S s H locs → lv_has ls 5 [(0, .ref (gR G l0)), (1, .int l1), (2, .int l2)] → LX8_measure_40 r30 n l0 l1 l2 S = some res → W p l e (rmL 3 0 0) s m args below meth c H locs 0 0 (MQ below (QV G res) args s 0 0 (Ab G)) (F0 m 40 ls []) := by
  intro n
  induction n with
  | zero => intro l0 l1 l2 S res H locs ls kl0 hd hl h; cases h
  | succ n ih =>
    intro l0 l1 l2 S res H locs ls kl0 hd hl h
    exact sKX8_measure_40 C hr hr30 ih kl0 hd hl h
def KX8_measure_30 (r30 : Nat → Int32 → St → Option St) (l0 : Nat) (l1 : Int32) (S : St) : Option St :=
  (if (S l0 0) ≤ l1 then some S else (LX8_measure_40 r30 FU l0 l1 0 S))
set_option maxHeartbeats 4000000 in
set_option maxRecDepth 20000 in
theorem sKX8_measure_30 (C : Cx p s m args meth c cX8_measure 5 RX8 G) (hr : meth.sig.returnType = none) {r30 : Nat → Int32 → St → Option St} (hr30 : ∀ (l0 : Nat) (l1 : Int32) (S : St) (res : St) (H : Heap) (locs : List Loc) (ls : Array Slot), kd l0 = 8 → Dy G S s H locs → lv_has ls 5 [(0, .ref (gR G l0)), (1, .int l1)] → r30 l0 l1 S = some res → W p l e (rmL 3 0 0) s m args below meth c H locs 0 0 (MQ below (QV G res) args s 0 0 (Ab G)) (F0 m 30 ls [])) {l0 : Nat} {l1 : Int32} {S : St} {res : St} {H : Heap} {locs : List Loc} {ls : Array Slot} (kl0 : kd l0 = 8) (hd : Dy G S s H locs) (hl : lv_has ls 5 [(0, .ref (gR G l0)), (1, .int l1)]) (h : KX8_measure_30 r30 l0 l1 S = some res) : W p l e (rmL 3 0 0) s m args below meth c H locs 0 0 (MQ below (QV G res) args s 0 0 (Ab G)) (F0 m 30 ls []) := by
  unfold KX8_measure_30 at h
  have hx := C.1.1
  have hb := C.1.2.1
  refine lv_iload_n hx hb dX8_measure_30 rfl (lv_at hl 1 rfl) ?_
  refine lv_aload_n hx hb dX8_measure_31 rfl (lv_at hl 0 rfl) ?_
  refine gX8_51 C hd kl0 dX8_measure_32 ?_
  refine lv_icmp_ge (tgt := 130) hx hb dX8_measure_35 (by decide) (fun c1 => ?_) (fun c1 => ?_)
  · rw [if_pos c1] at h
    exact R_vret C hr hd h dX8_measure_130
  · rw [if_neg c1] at h
    refine lv_iconst (v := 0) hx hb dX8_measure_38 (by decide) ?_
    refine lv_istore_n (lv' := [(2, .int 0), (0, .ref (gR G l0)), (1, .int l1)]) hx hb dX8_measure_39 rfl hl (by decide) rfl (fun ls hl => ?_)
    exact sLX8_measure_40 C hr hr30 _ l0 l1 0 _ _ _ _ _ kl0 hd (lv_sub hl [1, 2, 0] rfl) h
def LX8_measure_30 : Nat → Nat → Int32 → St → Option St
  | 0 => fun _ _ _ => none
  | n + 1 => fun l0 l1 S => KX8_measure_30 (LX8_measure_30 n) l0 l1 S
theorem sLX8_measure_30 (C : Cx p s m args meth c cX8_measure 5 RX8 G) (hr : meth.sig.returnType = none) : ∀ (n : Nat) (l0 : Nat) (l1 : Int32) (S : St) (res : St) (H : Heap) (locs : List Loc) (ls : Array Slot), kd l0 = 8 → Dy G S s H locs → lv_has ls 5 [(0, .ref (gR G l0)), (1, .int l1)] → LX8_measure_30 n l0 l1 S = some res → W p l e (rmL 3 0 0) s m args below meth c H locs 0 0 (MQ below (QV G res) args s 0 0 (Ab G)) (F0 m 30 ls []) := by
  intro n
  induction n with
  | zero => intro l0 l1 S res H locs ls kl0 hd hl h; cases h
  | succ n ih =>
    intro l0 l1 S res H locs ls kl0 hd hl h
    exact sKX8_measure_30 C hr ih kl0 hd hl h
def KX8_measure_2 (r2 : Nat → Int32 → St → Option St) (l0 : Nat) (l1 : Int32) (S : St) : Option St :=
  (if (S l0 0) ≤ l1 then (LX8_measure_30 FU l0 0 S) else wr S (sr l0 7) ((l1 * 8) + l1) 0 fun S => vl (l1 + 1) fun x3 => (r2 l0 x3 S))
set_option maxHeartbeats 4000000 in
set_option maxRecDepth 20000 in
theorem sKX8_measure_2 (C : Cx p s m args meth c cX8_measure 5 RX8 G) (hr : meth.sig.returnType = none) {r2 : Nat → Int32 → St → Option St} (hr2 : ∀ (l0 : Nat) (l1 : Int32) (S : St) (res : St) (H : Heap) (locs : List Loc) (ls : Array Slot), kd l0 = 8 → Dy G S s H locs → lv_has ls 5 [(0, .ref (gR G l0)), (1, .int l1)] → r2 l0 l1 S = some res → W p l e (rmL 3 0 0) s m args below meth c H locs 0 0 (MQ below (QV G res) args s 0 0 (Ab G)) (F0 m 2 ls [])) {l0 : Nat} {l1 : Int32} {S : St} {res : St} {H : Heap} {locs : List Loc} {ls : Array Slot} (kl0 : kd l0 = 8) (hd : Dy G S s H locs) (hl : lv_has ls 5 [(0, .ref (gR G l0)), (1, .int l1)]) (h : KX8_measure_2 r2 l0 l1 S = some res) : W p l e (rmL 3 0 0) s m args below meth c H locs 0 0 (MQ below (QV G res) args s 0 0 (Ab G)) (F0 m 2 ls []) := by
  unfold KX8_measure_2 at h
  have hx := C.1.1
  have hb := C.1.2.1
  refine lv_iload_n hx hb dX8_measure_2 rfl (lv_at hl 1 rfl) ?_
  refine lv_aload_n hx hb dX8_measure_3 rfl (lv_at hl 0 rfl) ?_
  refine gX8_51 C hd kl0 dX8_measure_4 ?_
  refine lv_icmp_ge (tgt := 28) hx hb dX8_measure_7 (by decide) (fun c1 => ?_) (fun c1 => ?_)
  · rw [if_pos c1] at h
    refine lv_iconst (v := 0) hx hb dX8_measure_28 (by decide) ?_
    refine lv_istore_n (lv' := [(1, .int 0), (0, .ref (gR G l0))]) hx hb dX8_measure_29 rfl hl (by decide) rfl (fun ls hl => ?_)
    exact sLX8_measure_30 C hr _ l0 0 _ _ _ _ _ kl0 hd (lv_sub hl [1, 0] rfl) h
  · rw [if_neg c1] at h
    refine lv_aload_n hx hb dX8_measure_10 rfl (lv_at hl 0 rfl) ?_
    refine gX8_24 C hd kl0 (q := sr l0 7) rfl dX8_measure_11 (fun y2 => ?_)
    refine lv_iload_n hx hb dX8_measure_14 rfl (lv_at hl 1 rfl) ?_
    refine lv_bipush (v := 8) hx hb dX8_measure_15 (by decide) ?_
    refine lv_imul hx hb dX8_measure_17 ?_
    refine lv_iload_n hx hb dX8_measure_18 rfl (lv_at hl 1 rfl) ?_
    refine lv_iadd hx hb dX8_measure_19 ?_
    refine lv_iconst (v := 0) hx hb dX8_measure_20 (by decide) ?_
    refine R_iast C hd y2 h dX8_measure_21 (fun S H locs hd h => ?_)
    refine R_vi h (fun x3 ex3 h => ?_)
    refine lv_iinc (v := x3) (lv' := [(1, .int x3), (0, .ref (gR G l0))]) hx hb dX8_measure_22 hl (k := 1) rfl (by rw [ex3]; rfl) (by decide) rfl (fun ls hl => ?_)
    refine lv_goto (tgt := 2) hx hb dX8_measure_25 (by decide) ?_
    exact hr2 l0 x3 _ _ _ _ _ kl0 hd (lv_sub hl [1, 0] rfl) h
def LX8_measure_2 : Nat → Nat → Int32 → St → Option St
  | 0 => fun _ _ _ => none
  | n + 1 => fun l0 l1 S => KX8_measure_2 (LX8_measure_2 n) l0 l1 S
theorem sLX8_measure_2 (C : Cx p s m args meth c cX8_measure 5 RX8 G) (hr : meth.sig.returnType = none) : ∀ (n : Nat) (l0 : Nat) (l1 : Int32) (S : St) (res : St) (H : Heap) (locs : List Loc) (ls : Array Slot), kd l0 = 8 → Dy G S s H locs → lv_has ls 5 [(0, .ref (gR G l0)), (1, .int l1)] → LX8_measure_2 n l0 l1 S = some res → W p l e (rmL 3 0 0) s m args below meth c H locs 0 0 (MQ below (QV G res) args s 0 0 (Ab G)) (F0 m 2 ls []) := by
  intro n
  induction n with
  | zero => intro l0 l1 S res H locs ls kl0 hd hl h; cases h
  | succ n ih =>
    intro l0 l1 S res H locs ls kl0 hd hl h
    exact sKX8_measure_2 C hr ih kl0 hd hl h
def fX8_measure (a0 : Nat) (S : St) : Option St :=
  (LX8_measure_2 FU a0 0 S)
set_option maxHeartbeats 4000000 in
set_option maxRecDepth 20000 in
theorem sfX8_measure (C : Cx p s m args meth c cX8_measure 5 RX8 G) (hr : meth.sig.returnType = none) {a0 : Nat} {S : St} {res : St} {H : Heap} {locs : List Loc} {ls : Array Slot} (k0 : kd a0 = 8) (hd : Dy G S s H locs) (hl : lv_has ls 5 [(0, .ref (gR G a0))]) (h : fX8_measure a0 S = some res) : W p l e (rmL 3 0 0) s m args below meth c H locs 0 0 (MQ below (QV G res) args s 0 0 (Ab G)) (F0 m 0 ls []) := by
  unfold fX8_measure at h
  have hx := C.1.1
  have hb := C.1.2.1
  refine lv_iconst (v := 0) hx hb dX8_measure_0 (by decide) ?_
  refine lv_istore_n (lv' := [(1, .int 0), (0, .ref (gR G a0))]) hx hb dX8_measure_1 rfl hl (by decide) rfl (fun ls hl => ?_)
  exact sLX8_measure_2 C hr _ a0 0 _ _ _ _ _ k0 hd (lv_sub hl [1, 0] rfl) h
set_option maxRecDepth 20000 in
theorem ccX8_measure (l : Launch) (G : Gt) {a0 : Nat} {S : St} {res : St} (k0 : kd a0 = 8) (h : fX8_measure a0 S = some res) : Met l yX8_measure (wm yX8_measure cX8_measure 5 (none)) (rmL 3 0 0) (PcW G S [.ref (gR G a0)]) (QV G res) 0 0 (Ab G) := by
  refine Met.ofW (cc := cX8_measure) (maxL := 5) (ret := none) (by decide) rfl ?_
  intro p e s m args below meth c s₁ B hml hv
  obtain ⟨rfl, hK, hP⟩ := hv
  have C : Cx p s m _ meth c cX8_measure 5 RX8 G := ⟨⟨B.exec, B.bytes, hml, findClass_of_methodNamed B.named, fun w hw => atoms_spec (ws := wm yX8_measure cX8_measure 5 (none)) B.pre w (List.mem_cons_of_mem _ hw)⟩, B.notSynchronized, hK⟩
  have hl := lv_entry ([.ref (gR G a0)]) (n := 5) (Nat.le_of_ble_eq_true rfl)
  rw [lg_entry_eq]
  generalize (lg_sl ([.ref (gR G a0)]) ++ List.replicate (5 - (lg_sl ([.ref (gR G a0)])).length) Slot.unset).toArray = ls at hl ⊢
  exact sfX8_measure C B.returns k0 ⟨hP, va_S.rf⟩ hl h
end T22
