section RS
variable {p : Program} {l : Launch} {e : Env} {R : Room} {s : State} {m : MethodId} {args : Array Value} {below : List Frame} {meth : Method} {c : Code} {H : Heap} {locs : List Loc} {cells slots : Nat} {Q : State → Prop}
variable {cc : ByteArray} {pc nL : Nat} {ls : Array Slot} {rest : List Value} {own : String} {G : Gt} {S : St}
theorem R_nret {ty : FieldType} {v : Int32} (C : Cx p s m args meth c cc nL own G) (hr : meth.sig.returnType = some ty) (hn : narrow ty (.int v) = .int v) (hd : Dy G S s H locs) (hdg : decode cc pc = .ok (.ireturn, 1)) : W p l e R s m args below meth c H locs cells slots (MQ below (QI G v S) args s cells slots (Ab G)) (F0 m pc ls [.int v]) := by
  obtain ⟨⟨hx, hb, hml, hown, hts⟩, hlk, hK⟩ := C
  exact W.zret (v := v) hx hb hr hn (fun t ht hW => ⟨⟨v, (), rfl, rfl, by show va_P _ _ _ t.heap; rw [ht]; exact hd.1⟩, hd.2.F ht⟩) hd.2.2.2 hdg
variable {idx n np dm a : Nat} {C0 : String} {y : MethodName} {b : ByteArray} {r : Option FieldType} {S1 : St} {rv : Int32} {As st0 : List Value}
theorem R_cRi (C : Cx p s m args meth c cc nL own G) (hd : Dy G S s H locs) (hM : Met l y (wm y b n r) (rmL dm 0 0) (PcW G S (.ref a :: As)) (QI G rv S1) 0 0 (Ab G)) (hv : CV own idx C0 y b n r np) (hrc : ∃ cell : Cell, H[a]? = some cell ∧ cell.vm.isStatics = false ∧ s.vm.findClass C0 = some cell.cls) (hl : ls.size = nL)
    (hR : (rmL dm 0 0).frames + 1 ≤ R.frames ∧ 8 + (n + 11) + (rmL dm 0 0).locals ≤ R.locals) (hn : As.length = np) (hst : st0 = As.reverse ++ .ref a :: rest) (hW : (rest.map fun v => v.category).sum ≤ 8) (hdg : decode cc pc = .ok (.invokevirtual idx, 3)) (hf : cells + 0 ≤ R.cells ∧ slots + 0 ≤ R.slots)
    (kk : ∀ (H1 : Heap) (locs1 : List Loc), Dy G S1 s H1 locs1 → W p l e R s m args below meth c H1 locs1 cells slots Q (F0 m (pc + 3) ls (.int rv :: rest))) : W p l e R s m args below meth c H locs cells slots Q (F0 m pc ls st0) := by
  refine va_calli (A1 := Ab G) (A0 := Ab G) (free := Ab G) (rest := rest) (va_runV (As := As) (rest := rest) C.1 hM (cwV np C.1.2.2.2.2 hv.1 rfl rfl rfl hv.2 hR) ⟨PcW.blind, hrc, C.pre hd⟩ rfl hn hl hst (lv_room hW) hdg hf) hd.2 (fun _ _ h => h) (fun _ h => h) ?_
  intro rx u t H1 locs1 ht _ hw hB _ _ hS1
  subst hw
  exact kk H1 locs1 ⟨by rw [← ht]; exact hB, hS1⟩
theorem Cx.srecv (C : Cx p s m args meth c cc nL own G) (hd : Dy G S s H locs) {j : Nat} (hj : j < NS) : ∃ cell : Cell, H[gK G j]? = some cell ∧ cell.vm.isStatics = false ∧ s.vm.findClass "java/lang/String" = some cell.cls := by
  obtain ⟨cell, h1, h2, h3, -⟩ := (C.2.2.2.1 j hj).1.kept hd.2.2.1
  exact ⟨cell, h1, h2, h3⟩
end RS
theorem kJ0_335 : CV RJ0 335 RJ0 yJ0_coder_7d493 cJ0_coder_7d493 1 (some .byte) 0 := ⟨wsV_gt wd622 wd623 wd624 wd18 wd625, by decide +kernel⟩
theorem kJ0_492 : CV RJ0 492 RJ0 yJ0_isLatin1_aae02 cJ0_isLatin1_aae02 1 (some .boolean) 0 := ⟨wsV_gt wd632 wd633 wd634 wd18 wd635, by decide +kernel⟩
theorem kJ0_495 : CS RJ0 495 yJ1_charAt_3b067 cJ1_charAt_3b067 2 (some .char) 2 := ⟨wsS_gt wd636 wd637 wd19 wd638, by decide +kernel⟩
theorem kJ0_1059 : CS RJ0 1059 yJ3_checkIndex_8e157 cJ3_checkIndex_8e157 3 (some .int) 3 := ⟨wsS_gt wd644 wd645 wd20 wd646, by decide +kernel⟩
theorem kJ1_9 : CS RJ1 9 yJ0_checkIndex_df160 cJ0_checkIndex_df160 2 none 2 := ⟨wsS_gt wd639 wd640 wd18 wd641, by decide +kernel⟩
set_option maxRecDepth 20000 in
theorem ccJ0_coder_7d493 (l : Launch) (G : Gt) {S : St} {j : Nat} (hj : j < NS) : Met l yJ0_coder_7d493 (wm yJ0_coder_7d493 cJ0_coder_7d493 1 (some .byte)) (rmL 1 0 0) (PcW G S [.ref (gK G j)]) (QI G 0 S) 0 0 (Ab G) := by
  refine Met.ofW (cc := cJ0_coder_7d493) (maxL := 1) (ret := (some .byte)) (by decide) rfl ?_
  intro p e s m args below meth c s₁ B hml hv
  obtain ⟨rfl, hK, hP⟩ := hv
  have C : Cx p s m _ meth c cJ0_coder_7d493 1 RJ0 G := ⟨⟨B.exec, B.bytes, hml, findClass_of_methodNamed B.named, fun w hw => atoms_spec (ws := wm yJ0_coder_7d493 cJ0_coder_7d493 1 (some .byte)) B.pre w (List.mem_cons_of_mem _ hw)⟩, B.notSynchronized, hK⟩
  have hx := C.1.1
  have hb := C.1.2.1
  have hown := C.1.2.2.2.1
  have hts := C.1.2.2.2.2
  have hr := B.returns
  have hl := lv_entry ([.ref (gK G j)]) (n := 1) (Nat.le_of_ble_eq_true rfl)
  rw [lg_entry_eq]
  generalize (lg_sl ([.ref (gK G j)]) ++ List.replicate (1 - (lg_sl ([.ref (gK G j)])).length) Slot.unset).toArray = ls at hl ⊢
  have hd : Dy G S s s.heap [] := ⟨hP, va_S.rf⟩
  refine va_gets hx hb hK.2.2.2.1 hd.2 hown (hts _ wd626) (fun _ h9 => h9) dJ0_coder_7d493_0 ?_
  refine lv_if_eq (tgt := 13) hx hb dJ0_coder_7d493_3 (by decide) (fun c1 => absurd c1 (by decide)) (fun c1 => ?_)
  refine lv_aload_n hx hb dJ0_coder_7d493_6 rfl (lv_at (i := 0) hl 0 rfl) ?_
  refine vk_getf hx hb (hK.2.1 j hj).2.1 hd.2 hown (hts _ wd1831) (fun _ h9 => h9) dJ0_coder_7d493_7 ?_
  refine lv_goto (tgt := 14) hx hb dJ0_coder_7d493_10 (by decide) ?_
  exact R_nret C hr rfl hd dJ0_coder_7d493_14
set_option maxRecDepth 20000 in
theorem ccJ0_isLatin1_aae02 (l : Launch) (G : Gt) {S : St} {j : Nat} (hj : j < NS) : Met l yJ0_isLatin1_aae02 (wm yJ0_isLatin1_aae02 cJ0_isLatin1_aae02 1 (some .boolean)) (rmL 1 0 0) (PcW G S [.ref (gK G j)]) (QI G 1 S) 0 0 (Ab G) := by
  refine Met.ofW (cc := cJ0_isLatin1_aae02) (maxL := 1) (ret := (some .boolean)) (by decide) rfl ?_
  intro p e s m args below meth c s₁ B hml hv
  obtain ⟨rfl, hK, hP⟩ := hv
  have C : Cx p s m _ meth c cJ0_isLatin1_aae02 1 RJ0 G := ⟨⟨B.exec, B.bytes, hml, findClass_of_methodNamed B.named, fun w hw => atoms_spec (ws := wm yJ0_isLatin1_aae02 cJ0_isLatin1_aae02 1 (some .boolean)) B.pre w (List.mem_cons_of_mem _ hw)⟩, B.notSynchronized, hK⟩
  have hx := C.1.1
  have hb := C.1.2.1
  have hown := C.1.2.2.2.1
  have hts := C.1.2.2.2.2
  have hr := B.returns
  have hl := lv_entry ([.ref (gK G j)]) (n := 1) (Nat.le_of_ble_eq_true rfl)
  rw [lg_entry_eq]
  generalize (lg_sl ([.ref (gK G j)]) ++ List.replicate (1 - (lg_sl ([.ref (gK G j)])).length) Slot.unset).toArray = ls at hl ⊢
  have hd : Dy G S s s.heap [] := ⟨hP, va_S.rf⟩
  refine va_gets hx hb hK.2.2.2.1 hd.2 hown (hts _ wd626) (fun _ h9 => h9) dJ0_isLatin1_aae02_0 ?_
  refine lv_if_eq (tgt := 17) hx hb dJ0_isLatin1_aae02_3 (by decide) (fun c1 => absurd c1 (by decide)) (fun c1 => ?_)
  refine lv_aload_n hx hb dJ0_isLatin1_aae02_6 rfl (lv_at (i := 0) hl 0 rfl) ?_
  refine vk_getf hx hb (hK.2.1 j hj).2.1 hd.2 hown (hts _ wd1831) (fun _ h9 => h9) dJ0_isLatin1_aae02_7 ?_
  refine lv_if_ne (tgt := 17) hx hb dJ0_isLatin1_aae02_10 (by decide) (fun c1 => absurd rfl c1) (fun c1 => ?_)
  refine lv_iconst (v := 1) hx hb dJ0_isLatin1_aae02_13 (by decide) ?_
  refine lv_goto (tgt := 18) hx hb dJ0_isLatin1_aae02_14 (by decide) ?_
  exact R_nret C hr rfl hd dJ0_isLatin1_aae02_18
set_option maxRecDepth 20000 in
theorem ccJ3_checkIndex_8e157 (l : Launch) (G : Gt) {S : St} {i n : Int32} {fm : Value} (hfm : fm.category = 1) (h0 : ¬ i < 0) (h1 : i < n) : Met l yJ3_checkIndex_8e157 (wm yJ3_checkIndex_8e157 cJ3_checkIndex_8e157 3 (some .int)) (rmL 1 0 0) (PcW G S [.int i, .int n, fm]) (QI G i S) 0 0 (Ab G) := by
  refine Met.ofW (cc := cJ3_checkIndex_8e157) (maxL := 3) (ret := (some .int)) (by decide) rfl ?_
  intro p e s m args below meth c s₁ B hml hv
  obtain ⟨rfl, hK, hP⟩ := hv
  have C : Cx p s m _ meth c cJ3_checkIndex_8e157 3 RJ3 G := ⟨⟨B.exec, B.bytes, hml, findClass_of_methodNamed B.named, fun w hw => atoms_spec (ws := wm yJ3_checkIndex_8e157 cJ3_checkIndex_8e157 3 (some .int)) B.pre w (List.mem_cons_of_mem _ hw)⟩, B.notSynchronized, hK⟩
  have hx := C.1.1
  have hb := C.1.2.1
  have hown := C.1.2.2.2.1
  have hts := C.1.2.2.2.2
  have hr := B.returns
  have hl := lv_entry ([.int i, .int n, fm]) (n := 3) (by show (List.flatMap (fun v : Value => if v.category = 2 then [Slot.val v, Slot.second] else [Slot.val v]) [Value.int i, Value.int n, fm]).length ≤ 3; simp only [List.flatMap_cons, List.flatMap_nil, hfm]; exact Nat.le_refl 3)
  rw [lg_entry_eq]
  generalize (lg_sl ([.int i, .int n, fm]) ++ List.replicate (3 - (lg_sl ([.int i, .int n, fm])).length) Slot.unset).toArray = ls at hl ⊢
  have hd : Dy G S s s.heap [] := ⟨hP, va_S.rf⟩
  have hl : lv_has ls 3 [(0, .int i), (1, .int n)] := lv_sub hl [0, 1] rfl
  refine lv_iload_n hx hb dJ3_checkIndex_8e157_0 rfl (lv_at hl 0 rfl) ?_
  refine lv_if_lt (tgt := 9) hx hb dJ3_checkIndex_8e157_1 (by decide) (fun c1 => absurd c1 h0) (fun c1 => ?_)
  refine lv_iload_n hx hb dJ3_checkIndex_8e157_4 rfl (lv_at hl 0 rfl) ?_
  refine lv_iload_n hx hb dJ3_checkIndex_8e157_5 rfl (lv_at hl 1 rfl) ?_
  refine lv_icmp_lt (tgt := 16) hx hb dJ3_checkIndex_8e157_6 (by decide) (fun c1 => ?_) (fun c1 => absurd h1 c1)
  refine lv_iload_n hx hb dJ3_checkIndex_8e157_16 rfl (lv_at hl 0 rfl) ?_
  exact R_iret C hr hd rfl dJ3_checkIndex_8e157_17
set_option maxRecDepth 20000 in
theorem ccJ0_checkIndex_df160 (l : Launch) (G : Gt) {S : St} {i n : Int32} (h0 : ¬ i < 0) (h1 : i < n) : Met l yJ0_checkIndex_df160 (wm yJ0_checkIndex_df160 cJ0_checkIndex_df160 2 none) (rmL 2 0 0) (PcW G S [.int i, .int n]) (QV G S) 0 0 (Ab G) := by
  refine Met.ofW (cc := cJ0_checkIndex_df160) (maxL := 2) (ret := none) (by decide) rfl ?_
  intro p e s m args below meth c s₁ B hml hv
  obtain ⟨rfl, hK, hP⟩ := hv
  have C : Cx p s m _ meth c cJ0_checkIndex_df160 2 RJ0 G := ⟨⟨B.exec, B.bytes, hml, findClass_of_methodNamed B.named, fun w hw => atoms_spec (ws := wm yJ0_checkIndex_df160 cJ0_checkIndex_df160 2 none) B.pre w (List.mem_cons_of_mem _ hw)⟩, B.notSynchronized, hK⟩
  have hx := C.1.1
  have hb := C.1.2.1
  have hown := C.1.2.2.2.1
  have hts := C.1.2.2.2.2
  have hr := B.returns
  have hl := lv_entry ([.int i, .int n]) (n := 2) (Nat.le_of_ble_eq_true rfl)
  rw [lg_entry_eq]
  generalize (lg_sl ([.int i, .int n]) ++ List.replicate (2 - (lg_sl ([.int i, .int n])).length) Slot.unset).toArray = ls at hl ⊢
  have hd : Dy G S s s.heap [] := ⟨hP, va_S.rf⟩
  have hl : lv_has ls 2 [(0, .int i), (1, .int n)] := hl
  refine lv_iload_n hx hb dJ0_checkIndex_df160_0 rfl (lv_at hl 0 rfl) ?_
  refine lv_iload_n hx hb dJ0_checkIndex_df160_1 rfl (lv_at hl 1 rfl) ?_
  rcases hK.2.2.2.2.2.2.1 with hz | ⟨t9, hz⟩
  · refine va_gets hx hb hz hd.2 hown (hts _ wd642) (fun _ h9 => h9) dJ0_checkIndex_df160_2 ?_
    refine R_cSi C hd (ccJ3_checkIndex_8e157 l G (fm := .null) rfl h0 h1) kJ0_1059 hl.1 ⟨by decide, by decide⟩ rfl rfl (Nat.le_of_ble_eq_true rfl) dJ0_checkIndex_df160_5 ⟨Nat.zero_le _, Nat.zero_le _⟩ (fun H locs hd => ?_)
    refine lv_pop hx hb dJ0_checkIndex_df160_8 rfl ?_
    exact R_vret C hr hd rfl dJ0_checkIndex_df160_9
  · refine va_gets hx hb hz hd.2 hown (hts _ wd642) (fun _ h9 => h9) dJ0_checkIndex_df160_2 ?_
    refine R_cSi C hd (ccJ3_checkIndex_8e157 l G (fm := .ref t9) rfl h0 h1) kJ0_1059 hl.1 ⟨by decide, by decide⟩ rfl rfl (Nat.le_of_ble_eq_true rfl) dJ0_checkIndex_df160_5 ⟨Nat.zero_le _, Nat.zero_le _⟩ (fun H locs hd => ?_)
    refine lv_pop hx hb dJ0_checkIndex_df160_8 rfl ?_
    exact R_vret C hr hd rfl dJ0_checkIndex_df160_9
theorem sLen_lt : ∀ j, j < NS → sLen.getD j 0 < 100 := by decide +kernel
theorem sByt_ok : ∀ j, j < NS → ∀ i, i < sLen.getD j 0 → ((((sByt.getD j []).getD i 0) &&& 255).toUInt32 % 65536).toInt32 = (sByt.getD j []).getD i 0 ∧ narrow .char (.int ((sByt.getD j []).getD i 0)) = .int ((sByt.getD j []).getD i 0) := by decide +kernel
set_option maxRecDepth 20000 in
theorem ccJ1_charAt_3b067 (l : Launch) (G : Gt) {S : St} {j : Nat} {i : Int32} (hj : j < NS) (hin : ¬ (i < 0 ∨ sLen.getD j 0 ≤ i.toNatClampNeg)) : Met l yJ1_charAt_3b067 (wm yJ1_charAt_3b067 cJ1_charAt_3b067 2 (some .char)) (rmL 3 0 0) (PcW G S [.ref (gV G j), .int i]) (QI G ((sByt.getD j []).getD i.toNatClampNeg 0) S) 0 0 (Ab G) := by
  refine Met.ofW (cc := cJ1_charAt_3b067) (maxL := 2) (ret := (some .char)) (by decide) rfl ?_
  intro p e s m args below meth c s₁ B hml hv
  obtain ⟨rfl, hK, hP⟩ := hv
  have C : Cx p s m _ meth c cJ1_charAt_3b067 2 RJ1 G := ⟨⟨B.exec, B.bytes, hml, findClass_of_methodNamed B.named, fun w hw => atoms_spec (ws := wm yJ1_charAt_3b067 cJ1_charAt_3b067 2 (some .char)) B.pre w (List.mem_cons_of_mem _ hw)⟩, B.notSynchronized, hK⟩
  have hx := C.1.1
  have hb := C.1.2.1
  have hown := C.1.2.2.2.1
  have hts := C.1.2.2.2.2
  have hr := B.returns
  have hl := lv_entry ([.ref (gV G j), .int i]) (n := 2) (Nat.le_of_ble_eq_true rfl)
  rw [lg_entry_eq]
  generalize (lg_sl ([.ref (gV G j), .int i]) ++ List.replicate (2 - (lg_sl ([.ref (gV G j), .int i])).length) Slot.unset).toArray = ls at hl ⊢
  have hd : Dy G S s s.heap [] := ⟨hP, va_S.rf⟩
  have hl : lv_has ls 2 [(0, .ref (gV G j)), (1, .int i)] := hl
  have hlen := sLen_lt j hj
  have h0 : ¬ i < 0 := fun q => hin (Or.inl q)
  have hlt : i.toNatClampNeg < sLen.getD j 0 := Nat.not_le.mp fun q => hin (Or.inr q)
  have h1 : i < Int32.ofNat (sLen.getD j 0) := by
    obtain ⟨k, hk, rfl⟩ := nI_of h0
    rw [nI_clamp hk] at hlt
    exact nI_lt hlt (by omega)
  obtain ⟨cell, g1, g2, g3, g4, g5, g6, g7⟩ := (hK.2.1 j hj).2.2.2
  refine lv_iload_n hx hb dJ1_charAt_3b067_0 rfl (lv_at hl 1 rfl) ?_
  refine lv_aload_n hx hb dJ1_charAt_3b067_1 rfl (lv_at hl 0 rfl) ?_
  refine W.alen (n := Int32.ofNat (sLen.getD j 0)) hx hb g1 g2 g5 rfl rfl dJ1_charAt_3b067_2 ?_
  refine R_cSv C hd (ccJ0_checkIndex_df160 l G h0 h1) kJ1_9 hl.1 ⟨by decide, by decide⟩ rfl rfl (Nat.le_of_ble_eq_true rfl) dJ1_charAt_3b067_3 ⟨Nat.zero_le _, Nat.zero_le _⟩ (fun H locs hd => ?_)
  have g1' : H[gV G j]? = some cell := by rw [hd.2.2.1 _ (Array.getElem?_eq_some_iff.mp g1).1 g7]; exact g1
  refine lv_aload_n hx hb dJ1_charAt_3b067_6 rfl (lv_at hl 0 rfl) ?_
  refine lv_iload_n hx hb dJ1_charAt_3b067_7 rfl (lv_at hl 1 rfl) ?_
  refine W.bald (v := .int ((sByt.getD j []).getD i.toNatClampNeg 0)) hx hb g1' g2 g3 (fun q => hin (q.elim Or.inl (fun z => Or.inr (Nat.le_trans g4 z)))) (g6 _ hlt) rfl rfl dJ1_charAt_3b067_8 ?_
  refine lv_sipush (v := 255) hx hb dJ1_charAt_3b067_9 (by decide) ?_
  refine lv_iand hx hb dJ1_charAt_3b067_12 ?_
  refine lv_i2c hx hb dJ1_charAt_3b067_13 (sByt_ok j hj _ hlt).1 ?_
  exact R_nret C hr (sByt_ok j hj _ hlt).2 hd dJ1_charAt_3b067_14
set_option maxRecDepth 20000 in
theorem ccJ0_length_8abf5 (l : Launch) (G : Gt) {S : St} {j : Nat} (hj : j < NS) : Met l yJ0_length_8abf5 (wm yJ0_length_8abf5 cJ0_length_8abf5 1 (some .int)) (rmL 2 0 0) (PcW G S [.ref (gK G j)]) (QI G (nI (sLen.getD j 0)) S) 0 0 (Ab G) := by
  refine Met.ofW (cc := cJ0_length_8abf5) (maxL := 1) (ret := (some .int)) (by decide) rfl ?_
  intro p e s m args below meth c s₁ B hml hv
  obtain ⟨rfl, hK, hP⟩ := hv
  have C : Cx p s m _ meth c cJ0_length_8abf5 1 RJ0 G := ⟨⟨B.exec, B.bytes, hml, findClass_of_methodNamed B.named, fun w hw => atoms_spec (ws := wm yJ0_length_8abf5 cJ0_length_8abf5 1 (some .int)) B.pre w (List.mem_cons_of_mem _ hw)⟩, B.notSynchronized, hK⟩
  have hx := C.1.1
  have hb := C.1.2.1
  have hown := C.1.2.2.2.1
  have hts := C.1.2.2.2.2
  have hr := B.returns
  have hl := lv_entry ([.ref (gK G j)]) (n := 1) (Nat.le_of_ble_eq_true rfl)
  rw [lg_entry_eq]
  generalize (lg_sl ([.ref (gK G j)]) ++ List.replicate (1 - (lg_sl ([.ref (gK G j)])).length) Slot.unset).toArray = ls at hl ⊢
  have hd : Dy G S s s.heap [] := ⟨hP, va_S.rf⟩
  have hl : lv_has ls 1 [(0, .ref (gK G j))] := hl
  have hlen := sLen_lt j hj
  obtain ⟨cell, g1, g2, g3, g4, g5, g6, g7⟩ := (hK.2.1 j hj).2.2.2
  refine lv_aload_n hx hb dJ0_length_8abf5_0 rfl (lv_at hl 0 rfl) ?_
  refine vk_getf hx hb (hK.2.1 j hj).2.2.1 hd.2 hown (hts _ wd1830) (fun _ h9 => h9) dJ0_length_8abf5_1 ?_
  refine W.alen (n := Int32.ofNat (sLen.getD j 0)) hx hb g1 g2 g5 rfl rfl dJ0_length_8abf5_4 ?_
  refine lv_aload_n hx hb dJ0_length_8abf5_5 rfl (lv_at hl 0 rfl) ?_
  refine R_cRi (C0 := "java/lang/String") C hd (ccJ0_coder_7d493 l G hj) kJ0_335 (C.srecv hd hj) hl.1 ⟨by decide, by decide⟩ rfl rfl (Nat.le_of_ble_eq_true rfl) dJ0_length_8abf5_6 ⟨Nat.zero_le _, Nat.zero_le _⟩ (fun H locs hd => ?_)
  refine lv_ishr hx hb dJ0_length_8abf5_9 ?_
  have hz : Int32.ofNat (sLen.getD j 0) >>> ((0 : Int32) &&& 31) = nI (sLen.getD j 0) := sc_shr0 (by omega)
  rw [hz]
  exact R_iret C hr hd rfl dJ0_length_8abf5_10
set_option maxRecDepth 20000 in
theorem ccJ0_charAt_5068e (l : Launch) (G : Gt) {S : St} {j : Nat} {i : Int32} (hj : j < NS) (hin : ¬ (i < 0 ∨ sLen.getD j 0 ≤ i.toNatClampNeg)) : Met l yJ0_charAt_5068e (wm yJ0_charAt_5068e cJ0_charAt_5068e 2 (some .char)) (rmL 4 0 0) (PcW G S [.ref (gK G j), .int i]) (QI G ((sByt.getD j []).getD i.toNatClampNeg 0) S) 0 0 (Ab G) := by
  refine Met.ofW (cc := cJ0_charAt_5068e) (maxL := 2) (ret := (some .char)) (by decide) rfl ?_
  intro p e s m args below meth c s₁ B hml hv
  obtain ⟨rfl, hK, hP⟩ := hv
  have C : Cx p s m _ meth c cJ0_charAt_5068e 2 RJ0 G := ⟨⟨B.exec, B.bytes, hml, findClass_of_methodNamed B.named, fun w hw => atoms_spec (ws := wm yJ0_charAt_5068e cJ0_charAt_5068e 2 (some .char)) B.pre w (List.mem_cons_of_mem _ hw)⟩, B.notSynchronized, hK⟩
  have hx := C.1.1
  have hb := C.1.2.1
  have hown := C.1.2.2.2.1
  have hts := C.1.2.2.2.2
  have hr := B.returns
  have hl := lv_entry ([.ref (gK G j), .int i]) (n := 2) (Nat.le_of_ble_eq_true rfl)
  rw [lg_entry_eq]
  generalize (lg_sl ([.ref (gK G j), .int i]) ++ List.replicate (2 - (lg_sl ([.ref (gK G j), .int i])).length) Slot.unset).toArray = ls at hl ⊢
  have hd : Dy G S s s.heap [] := ⟨hP, va_S.rf⟩
  have hl : lv_has ls 2 [(0, .ref (gK G j)), (1, .int i)] := hl
  have hlt : i.toNatClampNeg < sLen.getD j 0 := Nat.not_le.mp fun q => hin (Or.inr q)
  refine lv_aload_n hx hb dJ0_charAt_5068e_0 rfl (lv_at hl 0 rfl) ?_
  refine R_cRi (C0 := "java/lang/String") C hd (ccJ0_isLatin1_aae02 l G hj) kJ0_492 (C.srecv hd hj) hl.1 ⟨by decide, by decide⟩ rfl rfl (Nat.le_of_ble_eq_true rfl) dJ0_charAt_5068e_1 ⟨Nat.zero_le _, Nat.zero_le _⟩ (fun H locs hd => ?_)
  refine lv_if_eq (tgt := 16) hx hb dJ0_charAt_5068e_4 (by decide) (fun c1 => absurd c1 (by decide)) (fun c1 => ?_)
  refine lv_aload_n hx hb dJ0_charAt_5068e_7 rfl (lv_at hl 0 rfl) ?_
  refine vk_getf hx hb (hK.2.1 j hj).2.2.1 hd.2 hown (hts _ wd1830) (fun _ h9 => h9) dJ0_charAt_5068e_8 ?_
  refine lv_iload_n hx hb dJ0_charAt_5068e_11 rfl (lv_at hl 1 rfl) ?_
  refine R_cSi C hd (ccJ1_charAt_3b067 l G hj hin) kJ0_495 hl.1 ⟨by decide, by decide⟩ rfl rfl (Nat.le_of_ble_eq_true rfl) dJ0_charAt_5068e_12 ⟨Nat.zero_le _, Nat.zero_le _⟩ (fun H locs hd => ?_)
  exact R_nret C hr (sByt_ok j hj _ hlt).2 hd dJ0_charAt_5068e_15
section RS2
variable {p : Program} {l : Launch} {e : Env} {R : Room} {s : State} {m : MethodId} {args : Array Value} {below : List Frame} {meth : Method} {c : Code} {H : Heap} {locs : List Loc} {cells slots : Nat} {Q : State → Prop}
variable {cc : ByteArray} {pc nL : Nat} {ls : Array Slot} {rest : List Value} {own : String} {G : Gt} {S : St}
theorem R_slen {β : Type} {k : Int32 → Option β} {res : β} {idx j : Nat} (C : Cx p s m args meth c cc nL own G) (hl : ls.size = nL) (hv : CV own idx "java/lang/String" yJ0_length_8abf5 cJ0_length_8abf5 1 (some .int) 0) (hd : Dy G S s H locs) (h : sl j k = some res) (hR : 3 ≤ R.frames ∧ 140 ≤ R.locals) (hW : (rest.map fun v => v.category).sum ≤ 8) (hf : cells + 0 ≤ R.cells ∧ slots + 0 ≤ R.slots) (hdg : decode cc pc = .ok (.invokevirtual idx, 3))
    (kk : ∀ (x : Int32) (H1 : Heap) (locs1 : List Loc), Dy G S s H1 locs1 → k x = some res → W p l e R s m args below meth c H1 locs1 cells slots Q (F0 m (pc + 3) ls (.int x :: rest))) : W p l e R s m args below meth c H locs cells slots Q (F0 m pc ls (.ref (gK G j) :: rest)) := by
  unfold sl at h
  split at h
  · rename_i hj
    exact R_cRi C hd (ccJ0_length_8abf5 l G hj) hv (C.srecv hd hj) hl ⟨hR.1, hR.2⟩ rfl rfl hW hdg hf (fun H1 locs1 hd1 => kk _ H1 locs1 hd1 h)
  · cases h
theorem R_sch {β : Type} {k : Int32 → Option β} {res : β} {idx j : Nat} {i : Int32} (C : Cx p s m args meth c cc nL own G) (hl : ls.size = nL) (hv : CV own idx "java/lang/String" yJ0_charAt_5068e cJ0_charAt_5068e 2 (some .char) 1) (hd : Dy G S s H locs) (h : sh j i k = some res) (hR : 5 ≤ R.frames ∧ 261 ≤ R.locals) (hW : (rest.map fun v => v.category).sum ≤ 8) (hf : cells + 0 ≤ R.cells ∧ slots + 0 ≤ R.slots) (hdg : decode cc pc = .ok (.invokevirtual idx, 3))
    (kk : ∀ (x : Int32) (H1 : Heap) (locs1 : List Loc), Dy G S s H1 locs1 → k x = some res → W p l e R s m args below meth c H1 locs1 cells slots Q (F0 m (pc + 3) ls (.int x :: rest))) : W p l e R s m args below meth c H locs cells slots Q (F0 m pc ls (.int i :: .ref (gK G j) :: rest)) := by
  unfold sh at h
  split at h
  · rename_i hj
    exact R_cRi C hd (ccJ0_charAt_5068e l G hj.1 hj.2) hv (C.srecv hd hj.1) hl ⟨hR.1, hR.2⟩ rfl rfl hW hdg hf (fun H1 locs1 hd1 => kk _ H1 locs1 hd1 h)
  · cases h
end RS2
